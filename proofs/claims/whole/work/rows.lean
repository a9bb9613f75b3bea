section
-- ===== PART A: goes FIRST, ahead of the names: the tables' words, and 'selects' of the private methods out of them =====
/-- a private method of a class that the tables say can be made, by its rows of tables_1 -/
def lw_okq (q : MethodName × Nat) : Prop := (q.1.cls ≠ "java/lang/invoke/MethodHandle" ∧ q.1.cls ≠ "java/lang/invoke/VarHandle") ∧ Cond.instantiable q.1.cls q.2 ∈ tables_1 ∧ Cond.privateMethod q.1 ∈ tables_1 ∧ Cond.instanceMethod q.1 ∈ tables_1
theorem lw_p0 : lw_okq (⟨"StayWhereFell$Field", "surround", "(III)V"⟩, 9) := ⟨⟨by decide +kernel, by decide +kernel⟩, List.mem_of_getElem? (i := 40) (by decide +kernel), List.mem_of_getElem? (i := 174) (by decide +kernel), List.mem_of_getElem? (i := 175) (by decide +kernel)⟩
theorem lw_p1 : lw_okq (⟨"StayWhereFell$Field", "cellAt", "(II)I"⟩, 9) := ⟨⟨by decide +kernel, by decide +kernel⟩, List.mem_of_getElem? (i := 40) (by decide +kernel), List.mem_of_getElem? (i := 185) (by decide +kernel), List.mem_of_getElem? (i := 186) (by decide +kernel)⟩
theorem lw_p2 : lw_okq (⟨"StayWhereFell$Field", "lookAhead", "(III)V"⟩, 9) := ⟨⟨by decide +kernel, by decide +kernel⟩, List.mem_of_getElem? (i := 40) (by decide +kernel), List.mem_of_getElem? (i := 199) (by decide +kernel), List.mem_of_getElem? (i := 200) (by decide +kernel)⟩
theorem lw_p3 : lw_okq (⟨"StayWhereFell$Text", "fits", "(I)Z"⟩, 2) := ⟨⟨by decide +kernel, by decide +kernel⟩, List.mem_of_getElem? (i := 25) (by decide +kernel), List.mem_of_getElem? (i := 248) (by decide +kernel), List.mem_of_getElem? (i := 249) (by decide +kernel)⟩
theorem lw_p4 : lw_okq (⟨"StayWhereFell$Text", "byteAt", "(I)I"⟩, 2) := ⟨⟨by decide +kernel, by decide +kernel⟩, List.mem_of_getElem? (i := 25) (by decide +kernel), List.mem_of_getElem? (i := 252) (by decide +kernel), List.mem_of_getElem? (i := 253) (by decide +kernel)⟩
theorem lw_p5 : lw_okq (⟨"StayWhereFell$Text", "end", "()I"⟩, 2) := ⟨⟨by decide +kernel, by decide +kernel⟩, List.mem_of_getElem? (i := 25) (by decide +kernel), List.mem_of_getElem? (i := 256) (by decide +kernel), List.mem_of_getElem? (i := 257) (by decide +kernel)⟩
theorem lw_p6 : lw_okq (⟨"StayWhereFell$Text", "figure", "(I)I"⟩, 2) := ⟨⟨by decide +kernel, by decide +kernel⟩, List.mem_of_getElem? (i := 25) (by decide +kernel), List.mem_of_getElem? (i := 264) (by decide +kernel), List.mem_of_getElem? (i := 265) (by decide +kernel)⟩
theorem lw_p7 : lw_okq (⟨"StayWhereFell", "isCell", "(I)Z"⟩, 8) := ⟨⟨by decide +kernel, by decide +kernel⟩, List.mem_of_getElem? (i := 17) (by decide +kernel), List.mem_of_getElem? (i := 417) (by decide +kernel), List.mem_of_getElem? (i := 418) (by decide +kernel)⟩
theorem lw_p8 : lw_okq (⟨"StayWhereFell$Field", "lines", "(III)I"⟩, 9) := ⟨⟨by decide +kernel, by decide +kernel⟩, List.mem_of_getElem? (i := 40) (by decide +kernel), List.mem_of_getElem? (i := 474) (by decide +kernel), List.mem_of_getElem? (i := 475) (by decide +kernel)⟩
theorem lw_p9 : lw_okq (⟨"StayWhereFell$Place", "listFrom", "(III)V"⟩, 11) := ⟨⟨by decide +kernel, by decide +kernel⟩, List.mem_of_getElem? (i := 80) (by decide +kernel), List.mem_of_getElem? (i := 509) (by decide +kernel), List.mem_of_getElem? (i := 510) (by decide +kernel)⟩
theorem lw_p10 : lw_okq (⟨"StayWhereFell", "may", "(LStayWhereFell$Place;I)Z"⟩, 8) := ⟨⟨by decide +kernel, by decide +kernel⟩, List.mem_of_getElem? (i := 17) (by decide +kernel), List.mem_of_getElem? (i := 522) (by decide +kernel), List.mem_of_getElem? (i := 523) (by decide +kernel)⟩
theorem lw_p11 : lw_okq (⟨"StayWhereFell$Shelf", "isInside", "(I)Z"⟩, 4) := ⟨⟨by decide +kernel, by decide +kernel⟩, List.mem_of_getElem? (i := 137) (by decide +kernel), List.mem_of_getElem? (i := 535) (by decide +kernel), List.mem_of_getElem? (i := 536) (by decide +kernel)⟩
theorem lw_p12 : lw_okq (⟨"StayWhereFell$Place", "age", "()V"⟩, 11) := ⟨⟨by decide +kernel, by decide +kernel⟩, List.mem_of_getElem? (i := 80) (by decide +kernel), List.mem_of_getElem? (i := 543) (by decide +kernel), List.mem_of_getElem? (i := 544) (by decide +kernel)⟩
theorem lw_p13 : lw_okq (⟨"StayWhereFell$Place", "fall", "(II)V"⟩, 11) := ⟨⟨by decide +kernel, by decide +kernel⟩, List.mem_of_getElem? (i := 80) (by decide +kernel), List.mem_of_getElem? (i := 548) (by decide +kernel), List.mem_of_getElem? (i := 549) (by decide +kernel)⟩
theorem lw_p14 : lw_okq (⟨"StayWhereFell", "refusedAhead", "(I)I"⟩, 8) := ⟨⟨by decide +kernel, by decide +kernel⟩, List.mem_of_getElem? (i := 17) (by decide +kernel), List.mem_of_getElem? (i := 590) (by decide +kernel), List.mem_of_getElem? (i := 591) (by decide +kernel)⟩
theorem lw_p15 : lw_okq (⟨"StayWhereFell", "listKeys", "(I)I"⟩, 8) := ⟨⟨by decide +kernel, by decide +kernel⟩, List.mem_of_getElem? (i := 17) (by decide +kernel), List.mem_of_getElem? (i := 617) (by decide +kernel), List.mem_of_getElem? (i := 618) (by decide +kernel)⟩
def lw_privs_1 : List (MethodName × Nat) := [(⟨"StayWhereFell$Field", "surround", "(III)V"⟩, 9), (⟨"StayWhereFell$Field", "cellAt", "(II)I"⟩, 9), (⟨"StayWhereFell$Field", "lookAhead", "(III)V"⟩, 9), (⟨"StayWhereFell$Text", "fits", "(I)Z"⟩, 2), (⟨"StayWhereFell$Text", "byteAt", "(I)I"⟩, 2), (⟨"StayWhereFell$Text", "end", "()I"⟩, 2), (⟨"StayWhereFell$Text", "figure", "(I)I"⟩, 2), (⟨"StayWhereFell", "isCell", "(I)Z"⟩, 8), (⟨"StayWhereFell$Field", "lines", "(III)I"⟩, 9), (⟨"StayWhereFell$Place", "listFrom", "(III)V"⟩, 11), (⟨"StayWhereFell", "may", "(LStayWhereFell$Place;I)Z"⟩, 8), (⟨"StayWhereFell$Shelf", "isInside", "(I)Z"⟩, 4), (⟨"StayWhereFell$Place", "age", "()V"⟩, 11), (⟨"StayWhereFell$Place", "fall", "(II)V"⟩, 11), (⟨"StayWhereFell", "refusedAhead", "(I)I"⟩, 8), (⟨"StayWhereFell", "listKeys", "(I)I"⟩, 8)]
theorem lw_r1 : ∀ q ∈ lw_privs_1, lw_okq q := List.forall_mem_cons.mpr ⟨lw_p0, List.forall_mem_cons.mpr ⟨lw_p1, List.forall_mem_cons.mpr ⟨lw_p2, List.forall_mem_cons.mpr ⟨lw_p3, List.forall_mem_cons.mpr ⟨lw_p4, List.forall_mem_cons.mpr ⟨lw_p5, List.forall_mem_cons.mpr ⟨lw_p6, List.forall_mem_cons.mpr ⟨lw_p7, List.forall_mem_cons.mpr ⟨lw_p8, List.forall_mem_cons.mpr ⟨lw_p9, List.forall_mem_cons.mpr ⟨lw_p10, List.forall_mem_cons.mpr ⟨lw_p11, List.forall_mem_cons.mpr ⟨lw_p12, List.forall_mem_cons.mpr ⟨lw_p13, List.forall_mem_cons.mpr ⟨lw_p14, List.forall_mem_cons.mpr ⟨lw_p15, fun _ h => absurd h List.not_mem_nil⟩⟩⟩⟩⟩⟩⟩⟩⟩⟩⟩⟩⟩⟩⟩⟩
theorem lw_p16 : lw_okq (⟨"StayWhereFell", "partsAheadOf", "(I)I"⟩, 8) := ⟨⟨by decide +kernel, by decide +kernel⟩, List.mem_of_getElem? (i := 17) (by decide +kernel), List.mem_of_getElem? (i := 637) (by decide +kernel), List.mem_of_getElem? (i := 638) (by decide +kernel)⟩
theorem lw_p17 : lw_okq (⟨"StayWhereFell", "canComeAt", "(II)Z"⟩, 8) := ⟨⟨by decide +kernel, by decide +kernel⟩, List.mem_of_getElem? (i := 17) (by decide +kernel), List.mem_of_getElem? (i := 672) (by decide +kernel), List.mem_of_getElem? (i := 673) (by decide +kernel)⟩
theorem lw_p18 : lw_okq (⟨"StayWhereFellModel", "fits", "(I)Z"⟩, 19) := ⟨⟨by decide +kernel, by decide +kernel⟩, List.mem_of_getElem? (i := 739) (by decide +kernel), List.mem_of_getElem? (i := 821) (by decide +kernel), List.mem_of_getElem? (i := 822) (by decide +kernel)⟩
theorem lw_p19 : lw_okq (⟨"StayWhereFellModel", "isCell", "(I)Z"⟩, 19) := ⟨⟨by decide +kernel, by decide +kernel⟩, List.mem_of_getElem? (i := 739) (by decide +kernel), List.mem_of_getElem? (i := 844) (by decide +kernel), List.mem_of_getElem? (i := 845) (by decide +kernel)⟩
theorem lw_p20 : lw_okq (⟨"StayWhereFellModel", "aimsOf", "(IIIZ)I"⟩, 19) := ⟨⟨by decide +kernel, by decide +kernel⟩, List.mem_of_getElem? (i := 739) (by decide +kernel), List.mem_of_getElem? (i := 856) (by decide +kernel), List.mem_of_getElem? (i := 857) (by decide +kernel)⟩
theorem lw_p21 : lw_okq (⟨"StayWhereFellModel", "step", "(III)I"⟩, 19) := ⟨⟨by decide +kernel, by decide +kernel⟩, List.mem_of_getElem? (i := 739) (by decide +kernel), List.mem_of_getElem? (i := 863) (by decide +kernel), List.mem_of_getElem? (i := 864) (by decide +kernel)⟩
theorem lw_p22 : lw_okq (⟨"StayWhereFellModel", "at", "(III)I"⟩, 19) := ⟨⟨by decide +kernel, by decide +kernel⟩, List.mem_of_getElem? (i := 739) (by decide +kernel), List.mem_of_getElem? (i := 867) (by decide +kernel), List.mem_of_getElem? (i := 868) (by decide +kernel)⟩
theorem lw_p23 : lw_okq (⟨"StayWhereFellModel", "line", "(IIIIZ)I"⟩, 19) := ⟨⟨by decide +kernel, by decide +kernel⟩, List.mem_of_getElem? (i := 739) (by decide +kernel), List.mem_of_getElem? (i := 871) (by decide +kernel), List.mem_of_getElem? (i := 872) (by decide +kernel)⟩
theorem lw_p24 : lw_okq (⟨"StayWhereFellModel", "isFree", "(IIZ)Z"⟩, 19) := ⟨⟨by decide +kernel, by decide +kernel⟩, List.mem_of_getElem? (i := 739) (by decide +kernel), List.mem_of_getElem? (i := 875) (by decide +kernel), List.mem_of_getElem? (i := 876) (by decide +kernel)⟩
theorem lw_p25 : lw_okq (⟨"StayWhereFellModel", "canOf", "(II)I"⟩, 19) := ⟨⟨by decide +kernel, by decide +kernel⟩, List.mem_of_getElem? (i := 739) (by decide +kernel), List.mem_of_getElem? (i := 883) (by decide +kernel), List.mem_of_getElem? (i := 884) (by decide +kernel)⟩
theorem lw_p26 : lw_okq (⟨"StayWhereFellModel", "going", "(IIIZ)I"⟩, 19) := ⟨⟨by decide +kernel, by decide +kernel⟩, List.mem_of_getElem? (i := 739) (by decide +kernel), List.mem_of_getElem? (i := 887) (by decide +kernel), List.mem_of_getElem? (i := 888) (by decide +kernel)⟩
theorem lw_p27 : lw_okq (⟨"StayWhereFellModel", "list", "(I)I"⟩, 19) := ⟨⟨by decide +kernel, by decide +kernel⟩, List.mem_of_getElem? (i := 739) (by decide +kernel), List.mem_of_getElem? (i := 895) (by decide +kernel), List.mem_of_getElem? (i := 896) (by decide +kernel)⟩
theorem lw_p28 : lw_okq (⟨"StayWhereFellModel", "isPly", "(III)Z"⟩, 19) := ⟨⟨by decide +kernel, by decide +kernel⟩, List.mem_of_getElem? (i := 739) (by decide +kernel), List.mem_of_getElem? (i := 903) (by decide +kernel), List.mem_of_getElem? (i := 904) (by decide +kernel)⟩
theorem lw_p29 : lw_okq (⟨"StayWhereFellModel", "keepPly", "()V"⟩, 19) := ⟨⟨by decide +kernel, by decide +kernel⟩, List.mem_of_getElem? (i := 739) (by decide +kernel), List.mem_of_getElem? (i := 907) (by decide +kernel), List.mem_of_getElem? (i := 908) (by decide +kernel)⟩
theorem lw_p30 : lw_okq (⟨"StayWhereFellModel", "make", "(III)I"⟩, 19) := ⟨⟨by decide +kernel, by decide +kernel⟩, List.mem_of_getElem? (i := 739) (by decide +kernel), List.mem_of_getElem? (i := 911) (by decide +kernel), List.mem_of_getElem? (i := 912) (by decide +kernel)⟩
theorem lw_p31 : lw_okq (⟨"StayWhereFellModel", "hasKing", "(II)Z"⟩, 19) := ⟨⟨by decide +kernel, by decide +kernel⟩, List.mem_of_getElem? (i := 739) (by decide +kernel), List.mem_of_getElem? (i := 915) (by decide +kernel), List.mem_of_getElem? (i := 916) (by decide +kernel)⟩
def lw_privs_2 : List (MethodName × Nat) := [(⟨"StayWhereFell", "partsAheadOf", "(I)I"⟩, 8), (⟨"StayWhereFell", "canComeAt", "(II)Z"⟩, 8), (⟨"StayWhereFellModel", "fits", "(I)Z"⟩, 19), (⟨"StayWhereFellModel", "isCell", "(I)Z"⟩, 19), (⟨"StayWhereFellModel", "aimsOf", "(IIIZ)I"⟩, 19), (⟨"StayWhereFellModel", "step", "(III)I"⟩, 19), (⟨"StayWhereFellModel", "at", "(III)I"⟩, 19), (⟨"StayWhereFellModel", "line", "(IIIIZ)I"⟩, 19), (⟨"StayWhereFellModel", "isFree", "(IIZ)Z"⟩, 19), (⟨"StayWhereFellModel", "canOf", "(II)I"⟩, 19), (⟨"StayWhereFellModel", "going", "(IIIZ)I"⟩, 19), (⟨"StayWhereFellModel", "list", "(I)I"⟩, 19), (⟨"StayWhereFellModel", "isPly", "(III)Z"⟩, 19), (⟨"StayWhereFellModel", "keepPly", "()V"⟩, 19), (⟨"StayWhereFellModel", "make", "(III)I"⟩, 19), (⟨"StayWhereFellModel", "hasKing", "(II)Z"⟩, 19)]
theorem lw_r2 : ∀ q ∈ lw_privs_2, lw_okq q := List.forall_mem_cons.mpr ⟨lw_p16, List.forall_mem_cons.mpr ⟨lw_p17, List.forall_mem_cons.mpr ⟨lw_p18, List.forall_mem_cons.mpr ⟨lw_p19, List.forall_mem_cons.mpr ⟨lw_p20, List.forall_mem_cons.mpr ⟨lw_p21, List.forall_mem_cons.mpr ⟨lw_p22, List.forall_mem_cons.mpr ⟨lw_p23, List.forall_mem_cons.mpr ⟨lw_p24, List.forall_mem_cons.mpr ⟨lw_p25, List.forall_mem_cons.mpr ⟨lw_p26, List.forall_mem_cons.mpr ⟨lw_p27, List.forall_mem_cons.mpr ⟨lw_p28, List.forall_mem_cons.mpr ⟨lw_p29, List.forall_mem_cons.mpr ⟨lw_p30, List.forall_mem_cons.mpr ⟨lw_p31, fun _ h => absurd h List.not_mem_nil⟩⟩⟩⟩⟩⟩⟩⟩⟩⟩⟩⟩⟩⟩⟩⟩
theorem lw_p32 : lw_okq (⟨"StayWhereFellModel", "layKeys", "(I)I"⟩, 19) := ⟨⟨by decide +kernel, by decide +kernel⟩, List.mem_of_getElem? (i := 739) (by decide +kernel), List.mem_of_getElem? (i := 940) (by decide +kernel), List.mem_of_getElem? (i := 941) (by decide +kernel)⟩
theorem lw_p33 : lw_okq (⟨"StayWhereFellModel", "isKey", "(II)Z"⟩, 19) := ⟨⟨by decide +kernel, by decide +kernel⟩, List.mem_of_getElem? (i := 739) (by decide +kernel), List.mem_of_getElem? (i := 944) (by decide +kernel), List.mem_of_getElem? (i := 945) (by decide +kernel)⟩
theorem lw_p34 : lw_okq (⟨"StayWhereFellModel", "isDone", "(I)Z"⟩, 19) := ⟨⟨by decide +kernel, by decide +kernel⟩, List.mem_of_getElem? (i := 739) (by decide +kernel), List.mem_of_getElem? (i := 948) (by decide +kernel), List.mem_of_getElem? (i := 949) (by decide +kernel)⟩
theorem lw_p35 : lw_okq (⟨"StayWhereFellModel", "winsNow", "(I)Z"⟩, 19) := ⟨⟨by decide +kernel, by decide +kernel⟩, List.mem_of_getElem? (i := 739) (by decide +kernel), List.mem_of_getElem? (i := 952) (by decide +kernel), List.mem_of_getElem? (i := 953) (by decide +kernel)⟩
theorem lw_p36 : lw_okq (⟨"StayWhereFellModel", "layParts", "()I"⟩, 19) := ⟨⟨by decide +kernel, by decide +kernel⟩, List.mem_of_getElem? (i := 739) (by decide +kernel), List.mem_of_getElem? (i := 975) (by decide +kernel), List.mem_of_getElem? (i := 976) (by decide +kernel)⟩
theorem lw_p37 : lw_okq (⟨"StayWhereFellModel", "spread", "(II)V"⟩, 19) := ⟨⟨by decide +kernel, by decide +kernel⟩, List.mem_of_getElem? (i := 739) (by decide +kernel), List.mem_of_getElem? (i := 979) (by decide +kernel), List.mem_of_getElem? (i := 980) (by decide +kernel)⟩
theorem lw_p38 : lw_okq (⟨"StayWhereFellModel", "comesTo", "(I)I"⟩, 19) := ⟨⟨by decide +kernel, by decide +kernel⟩, List.mem_of_getElem? (i := 739) (by decide +kernel), List.mem_of_getElem? (i := 991) (by decide +kernel), List.mem_of_getElem? (i := 992) (by decide +kernel)⟩
theorem lw_p39 : lw_okq (⟨"StayWhereFellModel", "areFoes", "(II)Z"⟩, 19) := ⟨⟨by decide +kernel, by decide +kernel⟩, List.mem_of_getElem? (i := 739) (by decide +kernel), List.mem_of_getElem? (i := 999) (by decide +kernel), List.mem_of_getElem? (i := 1000) (by decide +kernel)⟩
theorem lw_p40 : lw_okq (⟨"StayWhereFellModel", "canComeAt", "(II)Z"⟩, 19) := ⟨⟨by decide +kernel, by decide +kernel⟩, List.mem_of_getElem? (i := 739) (by decide +kernel), List.mem_of_getElem? (i := 1003) (by decide +kernel), List.mem_of_getElem? (i := 1004) (by decide +kernel)⟩
theorem lw_p41 : lw_okq (⟨"StayWhereFellModel", "oneWay", "(II)I"⟩, 19) := ⟨⟨by decide +kernel, by decide +kernel⟩, List.mem_of_getElem? (i := 739) (by decide +kernel), List.mem_of_getElem? (i := 1016) (by decide +kernel), List.mem_of_getElem? (i := 1017) (by decide +kernel)⟩
theorem lw_p42 : lw_okq (⟨"StayWhereFellModel", "isLike", "(II)Z"⟩, 19) := ⟨⟨by decide +kernel, by decide +kernel⟩, List.mem_of_getElem? (i := 739) (by decide +kernel), List.mem_of_getElem? (i := 1020) (by decide +kernel), List.mem_of_getElem? (i := 1021) (by decide +kernel)⟩
theorem lw_p43 : lw_okq (⟨"StayWhereFellModel", "twoWays", "(II)I"⟩, 19) := ⟨⟨by decide +kernel, by decide +kernel⟩, List.mem_of_getElem? (i := 739) (by decide +kernel), List.mem_of_getElem? (i := 1024) (by decide +kernel), List.mem_of_getElem? (i := 1025) (by decide +kernel)⟩
theorem lw_p44 : lw_okq (⟨"StayWhereFellModel", "men", "(I)I"⟩, 19) := ⟨⟨by decide +kernel, by decide +kernel⟩, List.mem_of_getElem? (i := 739) (by decide +kernel), List.mem_of_getElem? (i := 1039) (by decide +kernel), List.mem_of_getElem? (i := 1040) (by decide +kernel)⟩
theorem lw_p45 : lw_okq (⟨"StayWhereFellModel", "setOf", "(I)I"⟩, 19) := ⟨⟨by decide +kernel, by decide +kernel⟩, List.mem_of_getElem? (i := 739) (by decide +kernel), List.mem_of_getElem? (i := 1055) (by decide +kernel), List.mem_of_getElem? (i := 1056) (by decide +kernel)⟩
def lw_privs_3 : List (MethodName × Nat) := [(⟨"StayWhereFellModel", "layKeys", "(I)I"⟩, 19), (⟨"StayWhereFellModel", "isKey", "(II)Z"⟩, 19), (⟨"StayWhereFellModel", "isDone", "(I)Z"⟩, 19), (⟨"StayWhereFellModel", "winsNow", "(I)Z"⟩, 19), (⟨"StayWhereFellModel", "layParts", "()I"⟩, 19), (⟨"StayWhereFellModel", "spread", "(II)V"⟩, 19), (⟨"StayWhereFellModel", "comesTo", "(I)I"⟩, 19), (⟨"StayWhereFellModel", "areFoes", "(II)Z"⟩, 19), (⟨"StayWhereFellModel", "canComeAt", "(II)Z"⟩, 19), (⟨"StayWhereFellModel", "oneWay", "(II)I"⟩, 19), (⟨"StayWhereFellModel", "isLike", "(II)Z"⟩, 19), (⟨"StayWhereFellModel", "twoWays", "(II)I"⟩, 19), (⟨"StayWhereFellModel", "men", "(I)I"⟩, 19), (⟨"StayWhereFellModel", "setOf", "(I)I"⟩, 19)]
theorem lw_r3 : ∀ q ∈ lw_privs_3, lw_okq q := List.forall_mem_cons.mpr ⟨lw_p32, List.forall_mem_cons.mpr ⟨lw_p33, List.forall_mem_cons.mpr ⟨lw_p34, List.forall_mem_cons.mpr ⟨lw_p35, List.forall_mem_cons.mpr ⟨lw_p36, List.forall_mem_cons.mpr ⟨lw_p37, List.forall_mem_cons.mpr ⟨lw_p38, List.forall_mem_cons.mpr ⟨lw_p39, List.forall_mem_cons.mpr ⟨lw_p40, List.forall_mem_cons.mpr ⟨lw_p41, List.forall_mem_cons.mpr ⟨lw_p42, List.forall_mem_cons.mpr ⟨lw_p43, List.forall_mem_cons.mpr ⟨lw_p44, List.forall_mem_cons.mpr ⟨lw_p45, fun _ h => absurd h List.not_mem_nil⟩⟩⟩⟩⟩⟩⟩⟩⟩⟩⟩⟩⟩⟩
def lw_privs : List (MethodName × Nat) := lw_privs_1 ++ (lw_privs_2 ++ (lw_privs_3))
def lw_tbl : List Cond := k2_sels lw_privs ++ tables_1
theorem lw_privs_ok : ∀ q ∈ lw_privs, lw_okq q := by
  show ∀ q ∈ lw_privs_1 ++ (lw_privs_2 ++ (lw_privs_3)), lw_okq q
  exact List.forall_mem_append.mpr ⟨lw_r1, List.forall_mem_append.mpr ⟨lw_r2, lw_r3⟩⟩
-- ===== end of PART A; then your names; then what follows =====
/-! ===== BEGIN words of one list among another's, by their places ===== -/
theorem goodIn_r {big : List Cond} (ws : List Cond) (ps : List Nat) (hp : ws = ps.filterMap (fun i => big[i]?)) (h : ws.all goodWord = true) : GoodIn big ws := by
  intro w hw
  have h1 := List.all_eq_true.mp h w hw
  rw [hp] at hw
  obtain ⟨i, -, hi⟩ := List.mem_filterMap.mp hw
  have hm : w ∈ big := by first | exact List.mem_of_getElem? hi | exact List.getElem?_mem hi
  exact ⟨hm, good_of_word h1⟩
theorem goodIn_app {big a b : List Cond} (ha : GoodIn big a) (hb : GoodIn big b) : GoodIn big (a ++ b) := fun w h => (List.mem_append.mp h).elim (ha w) (hb w)
theorem goodIn_ca {big a b : List Cond} {c : Cond} (ha : GoodIn big (c :: a)) (hb : GoodIn big b) : GoodIn big (c :: (a ++ b)) := fun w h => (List.mem_cons.mp h).elim (fun e => ha w (List.mem_cons.mpr (Or.inl e))) (fun h => (List.mem_append.mp h).elim (fun h => ha w (List.mem_cons.mpr (Or.inr h))) (hb w))
theorem goodIn_sub {big ws : List Cond} (hm : ∀ w ∈ ws, w ∈ big) (h : ws.all goodWord = true) : GoodIn big ws := fun w hw => ⟨hm w hw, good_of_word (List.all_eq_true.mp h w hw)⟩
/-! ===== END ===== -/

/-! ===== BEGIN printed: names, fields, word lists, decode rows ===== -/
def RX0 : String := "StayWhereFell$Field"
def TX0 : u_T := fun k => match k with
  | 0 => ("StayWhereFell$Field", "beside", "[I", true)
  | 1 => ("StayWhereFell$Field", "around", "[I", true)
  | 2 => ("StayWhereFell$Field", "leaps", "[I", true)
  | 3 => ("StayWhereFell$Field", "slants", "[I", true)
  | 4 => ("StayWhereFell$Field", "steps", "[I", true)
  | 5 => ("StayWhereFell$Field", "width", "I", false)
  | 6 => ("StayWhereFell$Field", "height", "I", false)
  | 7 => ("StayWhereFell$Field", "last", "I", false)
  | _ => ("StayWhereFell$Field", "cells", "I", false)
def tyX0 : Nat → FieldType := fun k => match k with
  | 0 => .array .int
  | 1 => .array .int
  | 2 => .array .int
  | 3 => .array .int
  | 4 => .array .int
  | 5 => .int
  | 6 => .int
  | 7 => .int
  | _ => .int
abbrev wsX00 : List Cond := u_ws RX0 TX0 9
theorem nmX0 : ∀ a, a < 9 → ∀ b, b < 9 → a ≠ b → (TX0 a).2.1 ≠ (TX0 b).2.1 := by decide +kernel
theorem tyX0_ok : ∀ k, k < 9 → parseFieldDescriptor (TX0 k).2.2.1 = some (tyX0 k) := by decide +kernel
abbrev cX0_init : ByteArray := prog_2_method_1_code
def yX0_init : MethodName := ⟨RX0, "<init>", "()V"⟩
abbrev cX0_shape : ByteArray := prog_2_method_2_code
def yX0_shape : MethodName := ⟨RX0, "shape", "(III)V"⟩
abbrev cX0_all : ByteArray := prog_2_method_3_code
def yX0_all : MethodName := ⟨RX0, "all", "()I"⟩
abbrev cX0_aimed : ByteArray := prog_2_method_4_code
def yX0_aimed : MethodName := ⟨RX0, "aimed", "(III)I"⟩
abbrev cX0_going : ByteArray := prog_2_method_5_code
def yX0_going : MethodName := ⟨RX0, "going", "(III)I"⟩
abbrev cX0_coming : ByteArray := prog_2_method_6_code
def yX0_coming : MethodName := ⟨RX0, "coming", "(III)I"⟩
abbrev cX0_threatened : ByteArray := prog_2_method_7_code
def yX0_threatened : MethodName := ⟨RX0, "threatened", "(III)I"⟩
abbrev cX0_hanging : ByteArray := prog_2_method_8_code
def yX0_hanging : MethodName := ⟨RX0, "hanging", "(II)I"⟩
abbrev cX0_surround : ByteArray := prog_2_method_9_code
def yX0_surround : MethodName := ⟨RX0, "surround", "(III)V"⟩
abbrev cX0_lookAhead : ByteArray := prog_2_method_10_code
def yX0_lookAhead : MethodName := ⟨RX0, "lookAhead", "(III)V"⟩
abbrev cX0_cellAt : ByteArray := prog_2_method_11_code
def yX0_cellAt : MethodName := ⟨RX0, "cellAt", "(II)I"⟩
abbrev cX0_bitOf : ByteArray := prog_2_method_12_code
def yX0_bitOf : MethodName := ⟨RX0, "bitOf", "(I)I"⟩
abbrev cX0_lines : ByteArray := prog_2_method_13_code
def yX0_lines : MethodName := ⟨RX0, "lines", "(III)I"⟩
def RX1 : String := "StayWhereFell$Past"
def TX1 : u_T := fun k => match k with
  | 0 => ("StayWhereFell$Past", "places", "LStayWhereFell$Shelf;", true)
  | 1 => ("StayWhereFell$Past", "first", "I", false)
  | _ => ("StayWhereFell$Past", "size", "I", false)
def tyX1 : Nat → FieldType := fun k => match k with
  | 0 => .object "StayWhereFell$Shelf"
  | 1 => .int
  | _ => .int
abbrev wsX10 : List Cond := u_ws RX1 TX1 3
theorem nmX1 : ∀ a, a < 3 → ∀ b, b < 3 → a ≠ b → (TX1 a).2.1 ≠ (TX1 b).2.1 := by decide +kernel
theorem tyX1_ok : ∀ k, k < 3 → parseFieldDescriptor (TX1 k).2.2.1 = some (tyX1 k) := by decide +kernel
abbrev cX1_init : ByteArray := prog_3_method_1_code
def yX1_init : MethodName := ⟨RX1, "<init>", "()V"⟩
abbrev cX1_clear : ByteArray := prog_3_method_2_code
def yX1_clear : MethodName := ⟨RX1, "clear", "()V"⟩
abbrev cX1_add : ByteArray := prog_3_method_3_code
def yX1_add : MethodName := ⟨RX1, "add", "(LStayWhereFell$Place;)V"⟩
abbrev cX1_takeLast : ByteArray := prog_3_method_4_code
def yX1_takeLast : MethodName := ⟨RX1, "takeLast", "(LStayWhereFell$Place;)V"⟩
def RX2 : String := "StayWhereFell$Place"
def TX2 : u_T := fun k => match k with
  | 0 => ("StayWhereFell$Place", "under", "LStayWhereFell$Place;", true)
  | 1 => ("StayWhereFell$Place", "row", "[I", true)
  | 2 => ("StayWhereFell$Place", "size", "I", false)
  | 3 => ("StayWhereFell$Place", "signs", "J", false)
  | 4 => ("StayWhereFell$Place", "times", "J", false)
  | 5 => ("StayWhereFell$Place", "white", "I", false)
  | 6 => ("StayWhereFell$Place", "black", "I", false)
  | 7 => ("StayWhereFell$Place", "dead", "I", false)
  | 8 => ("StayWhereFell$Place", "kings", "I", false)
  | 9 => ("StayWhereFell$Place", "on", "I", false)
  | _ => ("StayWhereFell$Place", "lost", "I", false)
def tyX2 : Nat → FieldType := fun k => match k with
  | 0 => .object "StayWhereFell$Place"
  | 1 => .array .int
  | 2 => .int
  | 3 => .long
  | 4 => .long
  | 5 => .int
  | 6 => .int
  | 7 => .int
  | 8 => .int
  | 9 => .int
  | _ => .int
abbrev wsX20 : List Cond := u_ws RX2 TX2 11
theorem nmX2 : ∀ a, a < 11 → ∀ b, b < 11 → a ≠ b → (TX2 a).2.1 ≠ (TX2 b).2.1 := by decide +kernel
theorem tyX2_ok : ∀ k, k < 11 → parseFieldDescriptor (TX2 k).2.2.1 = some (tyX2 k) := by decide +kernel
abbrev cX2_init : ByteArray := prog_4_method_1_code
def yX2_init : MethodName := ⟨RX2, "<init>", "(LStayWhereFell$Place;)V"⟩
abbrev cX2_clear : ByteArray := prog_4_method_2_code
def yX2_clear : MethodName := ⟨RX2, "clear", "()V"⟩
abbrev cX2_set : ByteArray := prog_4_method_3_code
def yX2_set : MethodName := ⟨RX2, "set", "(JJII)V"⟩
abbrev cX2_copy : ByteArray := prog_4_method_4_code
def yX2_copy : MethodName := ⟨RX2, "copy", "(LStayWhereFell$Place;)V"⟩
abbrev cX2_put : ByteArray := prog_4_method_5_code
def yX2_put : MethodName := ⟨RX2, "put", "(II)V"⟩
abbrev cX2_sign : ByteArray := prog_4_method_6_code
def yX2_sign : MethodName := ⟨RX2, "sign", "(I)I"⟩
abbrev cX2_lying : ByteArray := prog_4_method_7_code
def yX2_lying : MethodName := ⟨RX2, "lying", "(I)I"⟩
abbrev cX2_men : ByteArray := prog_4_method_8_code
def yX2_men : MethodName := ⟨RX2, "men", "(I)I"⟩
abbrev cX2_menCount : ByteArray := prog_4_method_9_code
def yX2_menCount : MethodName := ⟨RX2, "menCount", "()I"⟩
abbrev cX2_full : ByteArray := prog_4_method_10_code
def yX2_full : MethodName := ⟨RX2, "full", "()I"⟩
abbrev cX2_reach : ByteArray := prog_4_method_11_code
def yX2_reach : MethodName := ⟨RX2, "reach", "(LStayWhereFell$Field;I)I"⟩
abbrev cX2_list : ByteArray := prog_4_method_12_code
def yX2_list : MethodName := ⟨RX2, "list", "(LStayWhereFell$Field;)I"⟩
abbrev cX2_ply : ByteArray := prog_4_method_13_code
def yX2_ply : MethodName := ⟨RX2, "ply", "(I)I"⟩
abbrev cX2_setPly : ByteArray := prog_4_method_14_code
def yX2_setPly : MethodName := ⟨RX2, "setPly", "(II)V"⟩
abbrev cX2_follow : ByteArray := prog_4_method_15_code
def yX2_follow : MethodName := ⟨RX2, "follow", "(LStayWhereFell$Place;II)V"⟩
abbrev cX2_make : ByteArray := prog_4_method_16_code
def yX2_make : MethodName := ⟨RX2, "make", "(II)V"⟩
abbrev cX2_canFellLast : ByteArray := prog_4_method_17_code
def yX2_canFellLast : MethodName := ⟨RX2, "canFellLast", "(LStayWhereFell$Field;)Z"⟩
abbrev cX2_differing : ByteArray := prog_4_method_18_code
def yX2_differing : MethodName := ⟨RX2, "differing", "(LStayWhereFell$Place;)I"⟩
abbrev cX2_isAs : ByteArray := prog_4_method_19_code
def yX2_isAs : MethodName := ⟨RX2, "isAs", "(LStayWhereFell$Place;)Z"⟩
abbrev cX2_listFrom : ByteArray := prog_4_method_20_code
def yX2_listFrom : MethodName := ⟨RX2, "listFrom", "(III)V"⟩
abbrev cX2_fall : ByteArray := prog_4_method_21_code
def yX2_fall : MethodName := ⟨RX2, "fall", "(II)V"⟩
abbrev cX2_age : ByteArray := prog_4_method_22_code
def yX2_age : MethodName := ⟨RX2, "age", "()V"⟩
abbrev cX2_nibble : ByteArray := prog_4_method_23_code
def yX2_nibble : MethodName := ⟨RX2, "nibble", "(JI)I"⟩
abbrev cX2_with : ByteArray := prog_4_method_24_code
def yX2_with : MethodName := ⟨RX2, "with", "(IIZ)I"⟩
def RX3 : String := "StayWhereFell$Shelf"
def TX3 : u_T := fun k => match k with
  | 0 => ("StayWhereFell$Shelf", "signs", "[J", true)
  | 1 => ("StayWhereFell$Shelf", "times", "[J", true)
  | 2 => ("StayWhereFell$Shelf", "ons", "[I", true)
  | _ => ("StayWhereFell$Shelf", "losts", "[I", true)
def tyX3 : Nat → FieldType := fun k => match k with
  | 0 => .array .long
  | 1 => .array .long
  | 2 => .array .int
  | _ => .array .int
abbrev wsX30 : List Cond := u_ws RX3 TX3 4
theorem nmX3 : ∀ a, a < 4 → ∀ b, b < 4 → a ≠ b → (TX3 a).2.1 ≠ (TX3 b).2.1 := by decide +kernel
theorem tyX3_ok : ∀ k, k < 4 → parseFieldDescriptor (TX3 k).2.2.1 = some (tyX3 k) := by decide +kernel
abbrev cX3_init : ByteArray := prog_5_method_1_code
def yX3_init : MethodName := ⟨RX3, "<init>", "(I)V"⟩
abbrev cX3_clear : ByteArray := prog_5_method_2_code
def yX3_clear : MethodName := ⟨RX3, "clear", "()V"⟩
abbrev cX3_holds : ByteArray := prog_5_method_3_code
def yX3_holds : MethodName := ⟨RX3, "holds", "(I)Z"⟩
abbrev cX3_set : ByteArray := prog_5_method_4_code
def yX3_set : MethodName := ⟨RX3, "set", "(ILStayWhereFell$Place;)V"⟩
abbrev cX3_get : ByteArray := prog_5_method_5_code
def yX3_get : MethodName := ⟨RX3, "get", "(ILStayWhereFell$Place;)V"⟩
abbrev cX3_isInside : ByteArray := prog_5_method_6_code
def yX3_isInside : MethodName := ⟨RX3, "isInside", "(I)Z"⟩
def RX4 : String := "StayWhereFell$Text"
def TX4 : u_T := fun k => match k with
  | 0 => ("StayWhereFell$Text", "bytes", "[B", true)
  | _ => ("StayWhereFell$Text", "length", "I", false)
def tyX4 : Nat → FieldType := fun k => match k with
  | 0 => .array .byte
  | _ => .int
abbrev wsX40 : List Cond := u_ws RX4 TX4 2
theorem nmX4 : ∀ a, a < 2 → ∀ b, b < 2 → a ≠ b → (TX4 a).2.1 ≠ (TX4 b).2.1 := by decide +kernel
theorem tyX4_ok : ∀ k, k < 2 → parseFieldDescriptor (TX4 k).2.2.1 = some (tyX4 k) := by decide +kernel
abbrev cX4_init : ByteArray := prog_6_method_1_code
def yX4_init : MethodName := ⟨RX4, "<init>", "()V"⟩
abbrev cX4_add : ByteArray := prog_6_method_2_code
def yX4_add : MethodName := ⟨RX4, "add", "(IJ)V"⟩
abbrev cX4_firstFault : ByteArray := prog_6_method_3_code
def yX4_firstFault : MethodName := ⟨RX4, "firstFault", "()I"⟩
abbrev cX4_width : ByteArray := prog_6_method_4_code
def yX4_width : MethodName := ⟨RX4, "width", "()I"⟩
abbrev cX4_height : ByteArray := prog_6_method_5_code
def yX4_height : MethodName := ⟨RX4, "height", "()I"⟩
abbrev cX4_last : ByteArray := prog_6_method_6_code
def yX4_last : MethodName := ⟨RX4, "last", "()I"⟩
abbrev cX4_side : ByteArray := prog_6_method_7_code
def yX4_side : MethodName := ⟨RX4, "side", "()I"⟩
abbrev cX4_signOf : ByteArray := prog_6_method_8_code
def yX4_signOf : MethodName := ⟨RX4, "signOf", "(I)I"⟩
abbrev cX4_byteAt : ByteArray := prog_6_method_9_code
def yX4_byteAt : MethodName := ⟨RX4, "byteAt", "(I)I"⟩
abbrev cX4_figure : ByteArray := prog_6_method_10_code
def yX4_figure : MethodName := ⟨RX4, "figure", "(I)I"⟩
abbrev cX4_end : ByteArray := prog_6_method_11_code
def yX4_end : MethodName := ⟨RX4, "end", "()I"⟩
abbrev cX4_fits : ByteArray := prog_6_method_12_code
def yX4_fits : MethodName := ⟨RX4, "fits", "(I)Z"⟩
def RX5 : String := "StayWhereFell"
def TX5 : u_T := fun k => match k with
  | 0 => ("StayWhereFell", "text", "LStayWhereFell$Text;", true)
  | 1 => ("StayWhereFell", "field", "LStayWhereFell$Field;", true)
  | 2 => ("StayWhereFell", "ahead", "LStayWhereFell$Place;", true)
  | 3 => ("StayWhereFell", "now", "LStayWhereFell$Place;", true)
  | 4 => ("StayWhereFell", "kept", "LStayWhereFell$Place;", true)
  | 5 => ("StayWhereFell", "past", "LStayWhereFell$Past;", true)
  | 6 => ("StayWhereFell", "slots", "LStayWhereFell$Shelf;", true)
  | _ => ("StayWhereFell", "chance", "J", false)
def tyX5 : Nat → FieldType := fun k => match k with
  | 0 => .object "StayWhereFell$Text"
  | 1 => .object "StayWhereFell$Field"
  | 2 => .object "StayWhereFell$Place"
  | 3 => .object "StayWhereFell$Place"
  | 4 => .object "StayWhereFell$Place"
  | 5 => .object "StayWhereFell$Past"
  | 6 => .object "StayWhereFell$Shelf"
  | _ => .long
abbrev wsX50 : List Cond := u_ws RX5 TX5 8
theorem nmX5 : ∀ a, a < 8 → ∀ b, b < 8 → a ≠ b → (TX5 a).2.1 ≠ (TX5 b).2.1 := by decide +kernel
theorem tyX5_ok : ∀ k, k < 8 → parseFieldDescriptor (TX5 k).2.2.1 = some (tyX5 k) := by decide +kernel
abbrev cX5_init : ByteArray := prog_1_method_1_code
def yX5_init : MethodName := ⟨RX5, "<init>", "()V"⟩
abbrev cX5_write : ByteArray := prog_1_method_2_code
def yX5_write : MethodName := ⟨RX5, "write", "(IJ)I"⟩
abbrev cX5_wipe : ByteArray := prog_1_method_3_code
def yX5_wipe : MethodName := ⟨RX5, "wipe", "()I"⟩
abbrev cX5_fault : ByteArray := prog_1_method_4_code
def yX5_fault : MethodName := ⟨RX5, "fault", "()I"⟩
abbrev cX5_board : ByteArray := prog_1_method_5_code
def yX5_board : MethodName := ⟨RX5, "board", "()I"⟩
abbrev cX5_cell : ByteArray := prog_1_method_6_code
def yX5_cell : MethodName := ⟨RX5, "cell", "(I)I"⟩
abbrev cX5_gone : ByteArray := prog_1_method_7_code
def yX5_gone : MethodName := ⟨RX5, "gone", "(I)I"⟩
abbrev cX5_aims : ByteArray := prog_1_method_8_code
def yX5_aims : MethodName := ⟨RX5, "aims", "(I)I"⟩
abbrev cX5_can : ByteArray := prog_1_method_9_code
def yX5_can : MethodName := ⟨RX5, "can", "(I)I"⟩
abbrev cX5_plies : ByteArray := prog_1_method_10_code
def yX5_plies : MethodName := ⟨RX5, "plies", "()I"⟩
abbrev cX5_move : ByteArray := prog_1_method_11_code
def yX5_move : MethodName := ⟨RX5, "move", "(II)I"⟩
abbrev cX5_pass : ByteArray := prog_1_method_12_code
def yX5_pass : MethodName := ⟨RX5, "pass", "()I"⟩
abbrev cX5_undo : ByteArray := prog_1_method_13_code
def yX5_undo : MethodName := ⟨RX5, "undo", "()I"⟩
abbrev cX5_judge : ByteArray := prog_1_method_14_code
def yX5_judge : MethodName := ⟨RX5, "judge", "(II)I"⟩
abbrev cX5_wins : ByteArray := prog_1_method_15_code
def yX5_wins : MethodName := ⟨RX5, "wins", "(I)I"⟩
abbrev cX5_keys : ByteArray := prog_1_method_16_code
def yX5_keys : MethodName := ⟨RX5, "keys", "(I)I"⟩
abbrev cX5_keyAt : ByteArray := prog_1_method_17_code
def yX5_keyAt : MethodName := ⟨RX5, "keyAt", "(II)I"⟩
abbrev cX5_odds : ByteArray := prog_1_method_18_code
def yX5_odds : MethodName := ⟨RX5, "odds", "(Z)I"⟩
abbrev cX5_parts : ByteArray := prog_1_method_19_code
def yX5_parts : MethodName := ⟨RX5, "parts", "()I"⟩
abbrev cX5_part : ByteArray := prog_1_method_20_code
def yX5_part : MethodName := ⟨RX5, "part", "(I)I"⟩
abbrev cX5_comes : ByteArray := prog_1_method_21_code
def yX5_comes : MethodName := ⟨RX5, "comes", "(I)I"⟩
abbrev cX5_comesAt : ByteArray := prog_1_method_22_code
def yX5_comesAt : MethodName := ⟨RX5, "comesAt", "(II)I"⟩
abbrev cX5_shut : ByteArray := prog_1_method_23_code
def yX5_shut : MethodName := ⟨RX5, "shut", "()I"⟩
abbrev cX5_ways : ByteArray := prog_1_method_24_code
def yX5_ways : MethodName := ⟨RX5, "ways", "(II)I"⟩
abbrev cX5_seed : ByteArray := prog_1_method_25_code
def yX5_seed : MethodName := ⟨RX5, "seed", "(J)J"⟩
abbrev cX5_play : ByteArray := prog_1_method_26_code
def yX5_play : MethodName := ⟨RX5, "play", "(I)I"⟩
abbrev cX5_keep : ByteArray := prog_1_method_27_code
def yX5_keep : MethodName := ⟨RX5, "keep", "(I)I"⟩
abbrev cX5_again : ByteArray := prog_1_method_28_code
def yX5_again : MethodName := ⟨RX5, "again", "(I)I"⟩
abbrev cX5_count : ByteArray := prog_1_method_29_code
def yX5_count : MethodName := ⟨RX5, "count", "(I)I"⟩
abbrev cX5_isCell : ByteArray := prog_1_method_30_code
def yX5_isCell : MethodName := ⟨RX5, "isCell", "(I)Z"⟩
abbrev cX5_isSlot : ByteArray := prog_1_method_31_code
def yX5_isSlot : MethodName := ⟨RX5, "isSlot", "(I)Z"⟩
abbrev cX5_refusedAhead : ByteArray := prog_1_method_32_code
def yX5_refusedAhead : MethodName := ⟨RX5, "refusedAhead", "(I)I"⟩
abbrev cX5_may : ByteArray := prog_1_method_33_code
def yX5_may : MethodName := ⟨RX5, "may", "(LStayWhereFell$Place;I)Z"⟩
abbrev cX5_listKeys : ByteArray := prog_1_method_34_code
def yX5_listKeys : MethodName := ⟨RX5, "listKeys", "(I)I"⟩
abbrev cX5_partsAheadOf : ByteArray := prog_1_method_35_code
def yX5_partsAheadOf : MethodName := ⟨RX5, "partsAheadOf", "(I)I"⟩
abbrev cX5_canComeAt : ByteArray := prog_1_method_36_code
def yX5_canComeAt : MethodName := ⟨RX5, "canComeAt", "(II)Z"⟩
abbrev cX5_isForced : ByteArray := prog_1_method_37_code
def yX5_isForced : MethodName := ⟨RX5, "isForced", "(LStayWhereFell$Field;LStayWhereFell$Place;II)Z"⟩
abbrev cX5_rowsTo : ByteArray := prog_1_method_38_code
def yX5_rowsTo : MethodName := ⟨RX5, "rowsTo", "(LStayWhereFell$Field;LStayWhereFell$Place;LStayWhereFell$Place;I)I"⟩
abbrev cX5_greatestCommon : ByteArray := prog_1_method_39_code
def yX5_greatestCommon : MethodName := ⟨RX5, "greatestCommon", "(II)I"⟩
abbrev cX5_has : ByteArray := prog_1_method_40_code
def yX5_has : MethodName := ⟨RX5, "has", "(II)Z"⟩
abbrev cX5_lowest : ByteArray := prog_1_method_41_code
def yX5_lowest : MethodName := ⟨RX5, "lowest", "(I)I"⟩
abbrev cX5_at : ByteArray := prog_1_method_42_code
def yX5_at : MethodName := ⟨RX5, "at", "([II)I"⟩
abbrev cX5_lay : ByteArray := prog_1_method_43_code
def yX5_lay : MethodName := ⟨RX5, "lay", "([III)V"⟩
abbrev cX5_letter : ByteArray := prog_1_method_44_code
def yX5_letter : MethodName := ⟨RX5, "letter", "(I)I"⟩
abbrev cX5_sideOf : ByteArray := prog_1_method_45_code
def yX5_sideOf : MethodName := ⟨RX5, "sideOf", "(I)I"⟩
abbrev cX5_kindOf : ByteArray := prog_1_method_46_code
def yX5_kindOf : MethodName := ⟨RX5, "kindOf", "(I)I"⟩
def RX6 : String := "StayWhereFellModel"
def TX6 : u_T := fun k => match k with
  | 0 => ("StayWhereFellModel", "width", "I", false)
  | 1 => ("StayWhereFellModel", "height", "I", false)
  | 2 => ("StayWhereFellModel", "last", "I", false)
  | 3 => ("StayWhereFellModel", "cells", "[I", true)
  | 4 => ("StayWhereFellModel", "goes", "[I", true)
  | 5 => ("StayWhereFellModel", "on", "[I", true)
  | 6 => ("StayWhereFellModel", "lost", "[I", true)
  | 7 => ("StayWhereFellModel", "text", "[I", true)
  | 8 => ("StayWhereFellModel", "length", "I", false)
  | 9 => ("StayWhereFellModel", "listed", "[I", true)
  | 10 => ("StayWhereFellModel", "listedMany", "[I", true)
  | 11 => ("StayWhereFellModel", "plies", "I", false)
  | 12 => ("StayWhereFellModel", "next", "I", false)
  | 13 => ("StayWhereFellModel", "row", "[I", true)
  | 14 => ("StayWhereFellModel", "found", "[I", true)
  | 15 => ("StayWhereFellModel", "parted", "[I", true)
  | 16 => ("StayWhereFellModel", "seed", "J", false)
  | 17 => ("StayWhereFellModel", "isKept", "[Z", true)
  | _ => ("StayWhereFellModel", "kept", "[I", true)
def tyX6 : Nat → FieldType := fun k => match k with
  | 0 => .int
  | 1 => .int
  | 2 => .int
  | 3 => .array .int
  | 4 => .array .int
  | 5 => .array .int
  | 6 => .array .int
  | 7 => .array .int
  | 8 => .int
  | 9 => .array .int
  | 10 => .array .int
  | 11 => .int
  | 12 => .int
  | 13 => .array .int
  | 14 => .array .int
  | 15 => .array .int
  | 16 => .long
  | 17 => .array .boolean
  | _ => .array .int
abbrev wsX60 : List Cond := u_ws RX6 TX6 19
theorem nmX6 : ∀ a, a < 19 → ∀ b, b < 19 → a ≠ b → (TX6 a).2.1 ≠ (TX6 b).2.1 := by decide +kernel
theorem tyX6_ok : ∀ k, k < 19 → parseFieldDescriptor (TX6 k).2.2.1 = some (tyX6 k) := by decide +kernel
abbrev cX6_init : ByteArray := prog_8_method_1_code
def yX6_init : MethodName := ⟨RX6, "<init>", "()V"⟩
abbrev cX6_in : ByteArray := prog_8_method_3_code
def yX6_in : MethodName := ⟨RX6, "in", "(JJJ)Z"⟩
abbrev cX6_write : ByteArray := prog_8_method_4_code
def yX6_write : MethodName := ⟨RX6, "write", "(IJ)I"⟩
abbrev cX6_wipe : ByteArray := prog_8_method_5_code
def yX6_wipe : MethodName := ⟨RX6, "wipe", "()I"⟩
abbrev cX6_sideOf : ByteArray := prog_8_method_6_code
def yX6_sideOf : MethodName := ⟨RX6, "sideOf", "(I)I"⟩
abbrev cX6_isCellSign : ByteArray := prog_8_method_7_code
def yX6_isCellSign : MethodName := ⟨RX6, "isCellSign", "(I)Z"⟩
abbrev cX6_fits : ByteArray := prog_8_method_8_code
def yX6_fits : MethodName := ⟨RX6, "fits", "(I)Z"⟩
abbrev cX6_fault : ByteArray := prog_8_method_9_code
def yX6_fault : MethodName := ⟨RX6, "fault", "()I"⟩
abbrev cX6_board : ByteArray := prog_8_method_10_code
def yX6_board : MethodName := ⟨RX6, "board", "()I"⟩
abbrev cX6_isCell : ByteArray := prog_8_method_11_code
def yX6_isCell : MethodName := ⟨RX6, "isCell", "(I)Z"⟩
abbrev cX6_cell : ByteArray := prog_8_method_12_code
def yX6_cell : MethodName := ⟨RX6, "cell", "(I)I"⟩
abbrev cX6_gone : ByteArray := prog_8_method_13_code
def yX6_gone : MethodName := ⟨RX6, "gone", "(I)I"⟩
abbrev cX6_kindOf : ByteArray := prog_8_method_14_code
def yX6_kindOf : MethodName := ⟨RX6, "kindOf", "(I)I"⟩
abbrev cX6_at : ByteArray := prog_8_method_15_code
def yX6_at : MethodName := ⟨RX6, "at", "(III)I"⟩
abbrev cX6_isFree : ByteArray := prog_8_method_16_code
def yX6_isFree : MethodName := ⟨RX6, "isFree", "(IIZ)Z"⟩
abbrev cX6_line : ByteArray := prog_8_method_17_code
def yX6_line : MethodName := ⟨RX6, "line", "(IIIIZ)I"⟩
abbrev cX6_step : ByteArray := prog_8_method_18_code
def yX6_step : MethodName := ⟨RX6, "step", "(III)I"⟩
abbrev cX6_aimsOf : ByteArray := prog_8_method_19_code
def yX6_aimsOf : MethodName := ⟨RX6, "aimsOf", "(IIIZ)I"⟩
abbrev cX6_aims : ByteArray := prog_8_method_20_code
def yX6_aims : MethodName := ⟨RX6, "aims", "(I)I"⟩
abbrev cX6_going : ByteArray := prog_8_method_21_code
def yX6_going : MethodName := ⟨RX6, "going", "(IIIZ)I"⟩
abbrev cX6_canOf : ByteArray := prog_8_method_22_code
def yX6_canOf : MethodName := ⟨RX6, "canOf", "(II)I"⟩
abbrev cX6_can : ByteArray := prog_8_method_23_code
def yX6_can : MethodName := ⟨RX6, "can", "(I)I"⟩
abbrev cX6_list : ByteArray := prog_8_method_24_code
def yX6_list : MethodName := ⟨RX6, "list", "(I)I"⟩
abbrev cX6_hasKing : ByteArray := prog_8_method_25_code
def yX6_hasKing : MethodName := ⟨RX6, "hasKing", "(II)Z"⟩
abbrev cX6_make : ByteArray := prog_8_method_26_code
def yX6_make : MethodName := ⟨RX6, "make", "(III)I"⟩
abbrev cX6_plies : ByteArray := prog_8_method_27_code
def yX6_plies : MethodName := ⟨RX6, "plies", "()I"⟩
abbrev cX6_keepPly : ByteArray := prog_8_method_28_code
def yX6_keepPly : MethodName := ⟨RX6, "keepPly", "()V"⟩
abbrev cX6_isPly : ByteArray := prog_8_method_29_code
def yX6_isPly : MethodName := ⟨RX6, "isPly", "(III)Z"⟩
abbrev cX6_move : ByteArray := prog_8_method_30_code
def yX6_move : MethodName := ⟨RX6, "move", "(II)I"⟩
abbrev cX6_pass : ByteArray := prog_8_method_31_code
def yX6_pass : MethodName := ⟨RX6, "pass", "()I"⟩
abbrev cX6_undo : ByteArray := prog_8_method_32_code
def yX6_undo : MethodName := ⟨RX6, "undo", "()I"⟩
abbrev cX6_tenTo : ByteArray := prog_8_method_33_code
def yX6_tenTo : MethodName := ⟨RX6, "tenTo", "(I)I"⟩
abbrev cX6_judge : ByteArray := prog_8_method_34_code
def yX6_judge : MethodName := ⟨RX6, "judge", "(II)I"⟩
abbrev cX6_winsNow : ByteArray := prog_8_method_35_code
def yX6_winsNow : MethodName := ⟨RX6, "winsNow", "(I)Z"⟩
abbrev cX6_isDone : ByteArray := prog_8_method_36_code
def yX6_isDone : MethodName := ⟨RX6, "isDone", "(I)Z"⟩
abbrev cX6_isKey : ByteArray := prog_8_method_37_code
def yX6_isKey : MethodName := ⟨RX6, "isKey", "(II)Z"⟩
abbrev cX6_layKeys : ByteArray := prog_8_method_38_code
def yX6_layKeys : MethodName := ⟨RX6, "layKeys", "(I)I"⟩
abbrev cX6_wins : ByteArray := prog_8_method_39_code
def yX6_wins : MethodName := ⟨RX6, "wins", "(I)I"⟩
abbrev cX6_keys : ByteArray := prog_8_method_40_code
def yX6_keys : MethodName := ⟨RX6, "keys", "(I)I"⟩
abbrev cX6_keyAt : ByteArray := prog_8_method_41_code
def yX6_keyAt : MethodName := ⟨RX6, "keyAt", "(II)I"⟩
abbrev cX6_common : ByteArray := prog_8_method_42_code
def yX6_common : MethodName := ⟨RX6, "common", "(II)I"⟩
abbrev cX6_odds : ByteArray := prog_8_method_43_code
def yX6_odds : MethodName := ⟨RX6, "odds", "(Z)I"⟩
abbrev cX6_layParts : ByteArray := prog_8_method_44_code
def yX6_layParts : MethodName := ⟨RX6, "layParts", "()I"⟩
abbrev cX6_spread : ByteArray := prog_8_method_45_code
def yX6_spread : MethodName := ⟨RX6, "spread", "(II)V"⟩
abbrev cX6_parts : ByteArray := prog_8_method_46_code
def yX6_parts : MethodName := ⟨RX6, "parts", "()I"⟩
abbrev cX6_part : ByteArray := prog_8_method_47_code
def yX6_part : MethodName := ⟨RX6, "part", "(I)I"⟩
abbrev cX6_comesTo : ByteArray := prog_8_method_48_code
def yX6_comesTo : MethodName := ⟨RX6, "comesTo", "(I)I"⟩
abbrev cX6_comes : ByteArray := prog_8_method_49_code
def yX6_comes : MethodName := ⟨RX6, "comes", "(I)I"⟩
abbrev cX6_canComeAt : ByteArray := prog_8_method_50_code
def yX6_canComeAt : MethodName := ⟨RX6, "canComeAt", "(II)Z"⟩
abbrev cX6_areFoes : ByteArray := prog_8_method_51_code
def yX6_areFoes : MethodName := ⟨RX6, "areFoes", "(II)Z"⟩
abbrev cX6_comesAt : ByteArray := prog_8_method_52_code
def yX6_comesAt : MethodName := ⟨RX6, "comesAt", "(II)I"⟩
abbrev cX6_shut : ByteArray := prog_8_method_53_code
def yX6_shut : MethodName := ⟨RX6, "shut", "()I"⟩
abbrev cX6_isLike : ByteArray := prog_8_method_54_code
def yX6_isLike : MethodName := ⟨RX6, "isLike", "(II)Z"⟩
abbrev cX6_oneWay : ByteArray := prog_8_method_55_code
def yX6_oneWay : MethodName := ⟨RX6, "oneWay", "(II)I"⟩
abbrev cX6_twoWays : ByteArray := prog_8_method_56_code
def yX6_twoWays : MethodName := ⟨RX6, "twoWays", "(II)I"⟩
abbrev cX6_ways : ByteArray := prog_8_method_57_code
def yX6_ways : MethodName := ⟨RX6, "ways", "(II)I"⟩
abbrev cX6_seed : ByteArray := prog_8_method_58_code
def yX6_seed : MethodName := ⟨RX6, "seed", "(J)J"⟩
abbrev cX6_men : ByteArray := prog_8_method_59_code
def yX6_men : MethodName := ⟨RX6, "men", "(I)I"⟩
abbrev cX6_play : ByteArray := prog_8_method_60_code
def yX6_play : MethodName := ⟨RX6, "play", "(I)I"⟩
abbrev cX6_keep : ByteArray := prog_8_method_61_code
def yX6_keep : MethodName := ⟨RX6, "keep", "(I)I"⟩
abbrev cX6_again : ByteArray := prog_8_method_62_code
def yX6_again : MethodName := ⟨RX6, "again", "(I)I"⟩
abbrev cX6_setOf : ByteArray := prog_8_method_63_code
def yX6_setOf : MethodName := ⟨RX6, "setOf", "(I)I"⟩
abbrev cX6_count : ByteArray := prog_8_method_64_code
def yX6_count : MethodName := ⟨RX6, "count", "(I)I"⟩
def RJ11 : String := "java/lang/Character"
def TJ11 : u_T := fun k => match k with
  | _ => ("", "", "", false)
def tyJ11 : Nat → FieldType := fun k => match k with
  | _ => .int
abbrev wsJ110 : List Cond := u_ws RJ11 TJ11 0
theorem nmJ11 : ∀ a, a < 0 → ∀ b, b < 0 → a ≠ b → (TJ11 a).2.1 ≠ (TJ11 b).2.1 := by decide +kernel
theorem tyJ11_ok : ∀ k, k < 0 → parseFieldDescriptor (TJ11 k).2.2.1 = some (tyJ11 k) := by decide +kernel
abbrev cJ11_isValidCodePoint_9a6ad : ByteArray := prog_9_method_11_code
def yJ11_isValidCodePoint_9a6ad : MethodName := ⟨RJ11, "isValidCodePoint", "(I)Z"⟩
abbrev cJ11_highSurrogate_5068e : ByteArray := prog_9_method_28_code
def yJ11_highSurrogate_5068e : MethodName := ⟨RJ11, "highSurrogate", "(I)C"⟩
abbrev cJ11_lowSurrogate_5068e : ByteArray := prog_9_method_29_code
def yJ11_lowSurrogate_5068e : MethodName := ⟨RJ11, "lowSurrogate", "(I)C"⟩
def RJ6 : String := "java/lang/Integer"
def TJ6 : u_T := fun k => match k with
  | _ => ("", "", "", false)
def tyJ6 : Nat → FieldType := fun k => match k with
  | _ => .int
abbrev wsJ60 : List Cond := u_ws RJ6 TJ6 0
theorem nmJ6 : ∀ a, a < 0 → ∀ b, b < 0 → a ≠ b → (TJ6 a).2.1 ≠ (TJ6 b).2.1 := by decide +kernel
theorem tyJ6_ok : ∀ k, k < 0 → parseFieldDescriptor (TJ6 k).2.2.1 = some (tyJ6 k) := by decide +kernel
abbrev cJ6_bitCount_0f7a4 : ByteArray := prog_10_method_49_code
def yJ6_bitCount_0f7a4 : MethodName := ⟨RJ6, "bitCount", "(I)I"⟩
def RJ13 : String := "java/lang/Long"
def TJ13 : u_T := fun k => match k with
  | _ => ("", "", "", false)
def tyJ13 : Nat → FieldType := fun k => match k with
  | _ => .int
abbrev wsJ130 : List Cond := u_ws RJ13 TJ13 0
theorem nmJ13 : ∀ a, a < 0 → ∀ b, b < 0 → a ≠ b → (TJ13 a).2.1 ≠ (TJ13 b).2.1 := by decide +kernel
theorem tyJ13_ok : ∀ k, k < 0 → parseFieldDescriptor (TJ13 k).2.2.1 = some (tyJ13 k) := by decide +kernel
abbrev cJ13_bitCount_95d88 : ByteArray := prog_11_method_50_code
def yJ13_bitCount_95d88 : MethodName := ⟨RJ13, "bitCount", "(J)I"⟩
def RJ9 : String := "java/lang/Math"
def TJ9 : u_T := fun k => match k with
  | _ => ("", "", "", false)
def tyJ9 : Nat → FieldType := fun k => match k with
  | _ => .int
abbrev wsJ90 : List Cond := u_ws RJ9 TJ9 0
theorem nmJ9 : ∀ a, a < 0 → ∀ b, b < 0 → a ≠ b → (TJ9 a).2.1 ≠ (TJ9 b).2.1 := by decide +kernel
theorem tyJ9_ok : ∀ k, k < 0 → parseFieldDescriptor (TJ9 k).2.2.1 = some (tyJ9 k) := by decide +kernel
abbrev cJ9_max_7cf53 : ByteArray := prog_12_method_65_code
def yJ9_max_7cf53 : MethodName := ⟨RJ9, "max", "(II)I"⟩
abbrev cJ9_min_7cf53 : ByteArray := prog_12_method_69_code
def yJ9_min_7cf53 : MethodName := ⟨RJ9, "min", "(II)I"⟩
def RJ0 : String := "java/lang/String"
def TJ0 : u_T := fun k => match k with
  | _ => ("", "", "", false)
def tyJ0 : Nat → FieldType := fun k => match k with
  | _ => .int
abbrev wsJ00 : List Cond := u_ws RJ0 TJ0 0
theorem nmJ0 : ∀ a, a < 0 → ∀ b, b < 0 → a ≠ b → (TJ0 a).2.1 ≠ (TJ0 b).2.1 := by decide +kernel
theorem tyJ0_ok : ∀ k, k < 0 → parseFieldDescriptor (TJ0 k).2.2.1 = some (tyJ0 k) := by decide +kernel
abbrev cJ0_length_8abf5 : ByteArray := prog_13_method_54_code
def yJ0_length_8abf5 : MethodName := ⟨RJ0, "length", "()I"⟩
abbrev cJ0_charAt_5068e : ByteArray := prog_13_method_56_code
def yJ0_charAt_5068e : MethodName := ⟨RJ0, "charAt", "(I)C"⟩
abbrev cJ0_indexOf_0f7a4 : ByteArray := prog_13_method_79_code
def yJ0_indexOf_0f7a4 : MethodName := ⟨RJ0, "indexOf", "(I)I"⟩
abbrev cJ0_indexOf_7cf53 : ByteArray := prog_13_method_80_code
def yJ0_indexOf_7cf53 : MethodName := ⟨RJ0, "indexOf", "(II)I"⟩
abbrev cJ0_coder_7d493 : ByteArray := prog_13_method_152_code
def yJ0_coder_7d493 : MethodName := ⟨RJ0, "coder", "()B"⟩
abbrev cJ0_isLatin1_aae02 : ByteArray := prog_13_method_154_code
def yJ0_isLatin1_aae02 : MethodName := ⟨RJ0, "isLatin1", "()Z"⟩
abbrev cJ0_checkIndex_df160 : ByteArray := prog_13_method_155_code
def yJ0_checkIndex_df160 : MethodName := ⟨RJ0, "checkIndex", "(II)V"⟩
abbrev cJ0_checkBoundsBeginEnd_23922 : ByteArray := prog_13_method_158_code
def yJ0_checkBoundsBeginEnd_23922 : MethodName := ⟨RJ0, "checkBoundsBeginEnd", "(III)V"⟩
def RJ1 : String := "java/lang/StringLatin1"
def TJ1 : u_T := fun k => match k with
  | _ => ("", "", "", false)
def tyJ1 : Nat → FieldType := fun k => match k with
  | _ => .int
abbrev wsJ10 : List Cond := u_ws RJ1 TJ1 0
theorem nmJ1 : ∀ a, a < 0 → ∀ b, b < 0 → a ≠ b → (TJ1 a).2.1 ≠ (TJ1 b).2.1 := by decide +kernel
theorem tyJ1_ok : ∀ k, k < 0 → parseFieldDescriptor (TJ1 k).2.2.1 = some (tyJ1 k) := by decide +kernel
abbrev cJ1_charAt_3b067 : ByteArray := prog_14_method_2_code
def yJ1_charAt_3b067 : MethodName := ⟨RJ1, "charAt", "([BI)C"⟩
abbrev cJ1_canEncode_9a6ad : ByteArray := prog_14_method_4_code
def yJ1_canEncode_9a6ad : MethodName := ⟨RJ1, "canEncode", "(I)Z"⟩
abbrev cJ1_indexOf_4cfef : ByteArray := prog_14_method_22_code
def yJ1_indexOf_4cfef : MethodName := ⟨RJ1, "indexOf", "([BIII)I"⟩
abbrev cJ1_indexOfChar_4cfef : ByteArray := prog_14_method_23_code
def yJ1_indexOfChar_4cfef : MethodName := ⟨RJ1, "indexOfChar", "([BIII)I"⟩
def RJ2 : String := "java/lang/StringUTF16"
def TJ2 : u_T := fun k => match k with
  | _ => ("", "", "", false)
def tyJ2 : Nat → FieldType := fun k => match k with
  | _ => .int
abbrev wsJ20 : List Cond := u_ws RJ2 TJ2 0
theorem nmJ2 : ∀ a, a < 0 → ∀ b, b < 0 → a ≠ b → (TJ2 a).2.1 ≠ (TJ2 b).2.1 := by decide +kernel
theorem tyJ2_ok : ∀ k, k < 0 → parseFieldDescriptor (TJ2 k).2.2.1 = some (tyJ2 k) := by decide +kernel
abbrev cJ2_getChar_3b067 : ByteArray := prog_15_method_5_code
def yJ2_getChar_3b067 : MethodName := ⟨RJ2, "getChar", "([BI)C"⟩
abbrev cJ2_length_9d52b : ByteArray := prog_15_method_6_code
def yJ2_length_9d52b : MethodName := ⟨RJ2, "length", "([B)I"⟩
abbrev cJ2_indexOf_4cfef : ByteArray := prog_15_method_40_code
def yJ2_indexOf_4cfef : MethodName := ⟨RJ2, "indexOf", "([BIII)I"⟩
abbrev cJ2_indexOfChar_4cfef : ByteArray := prog_15_method_47_code
def yJ2_indexOfChar_4cfef : MethodName := ⟨RJ2, "indexOfChar", "([BIII)I"⟩
abbrev cJ2_indexOfCharUnsafe_4cfef : ByteArray := prog_15_method_48_code
def yJ2_indexOfCharUnsafe_4cfef : MethodName := ⟨RJ2, "indexOfCharUnsafe", "([BIII)I"⟩
abbrev cJ2_indexOfSupplementary_4cfef : ByteArray := prog_15_method_49_code
def yJ2_indexOfSupplementary_4cfef : MethodName := ⟨RJ2, "indexOfSupplementary", "([BIII)I"⟩
abbrev cJ2_charAt_3b067 : ByteArray := prog_15_method_83_code
def yJ2_charAt_3b067 : MethodName := ⟨RJ2, "charAt", "([BI)C"⟩
abbrev cJ2_checkIndex_2214a : ByteArray := prog_15_method_91_code
def yJ2_checkIndex_2214a : MethodName := ⟨RJ2, "checkIndex", "(I[B)V"⟩
abbrev cJ2_checkBoundsBeginEnd_d044e : ByteArray := prog_15_method_93_code
def yJ2_checkBoundsBeginEnd_d044e : MethodName := ⟨RJ2, "checkBoundsBeginEnd", "(II[B)V"⟩
def RJ3 : String := "jdk/internal/util/Preconditions"
def TJ3 : u_T := fun k => match k with
  | _ => ("", "", "", false)
def tyJ3 : Nat → FieldType := fun k => match k with
  | _ => .int
abbrev wsJ30 : List Cond := u_ws RJ3 TJ3 0
theorem nmJ3 : ∀ a, a < 0 → ∀ b, b < 0 → a ≠ b → (TJ3 a).2.1 ≠ (TJ3 b).2.1 := by decide +kernel
theorem tyJ3_ok : ∀ k, k < 0 → parseFieldDescriptor (TJ3 k).2.2.1 = some (tyJ3 k) := by decide +kernel
abbrev cJ3_checkIndex_8e157 : ByteArray := prog_16_method_11_code
def yJ3_checkIndex_8e157 : MethodName := ⟨RJ3, "checkIndex", "(IILjava/util/function/BiFunction;)I"⟩
abbrev cJ3_checkFromToIndex_8c36e : ByteArray := prog_16_method_12_code
def yJ3_checkFromToIndex_8c36e : MethodName := ⟨RJ3, "checkFromToIndex", "(IIILjava/util/function/BiFunction;)I"⟩
def RL : String := "StayWhereFellLaw"
abbrev cL_law : ByteArray := code
def yL_law : MethodName := ⟨RL, "law", "([I)Z"⟩
theorem inJ11 : ∀ w ∈ wsJ110, w ∈ lw_tbl := by decide +kernel
theorem inJ6 : ∀ w ∈ wsJ60, w ∈ lw_tbl := by decide +kernel
theorem inJ13 : ∀ w ∈ wsJ130, w ∈ lw_tbl := by decide +kernel
theorem inJ9 : ∀ w ∈ wsJ90, w ∈ lw_tbl := by decide +kernel
theorem inJ0 : ∀ w ∈ wsJ00, w ∈ lw_tbl := by decide +kernel
theorem inJ1 : ∀ w ∈ wsJ10, w ∈ lw_tbl := by decide +kernel
theorem inJ2 : ∀ w ∈ wsJ20, w ∈ lw_tbl := by decide +kernel
theorem inJ3 : ∀ w ∈ wsJ30, w ∈ lw_tbl := by decide +kernel
abbrev vwCl : List vw_C := [(RX0, TX0, 9), (RX1, TX1, 3), (RX2, TX2, 11), (RX3, TX3, 4), (RX4, TX4, 2), (RX5, TX5, 8), (RX6, TX6, 19)]
end
section
theorem dX0_init_0 : decode cX0_init 0 = .ok (.aload_n 0, 1) := by decide +kernel
theorem dX0_init_1 : decode cX0_init 1 = .ok (.invokespecial 3, 3) := by decide +kernel
theorem dX0_init_4 : decode cX0_init 4 = .ok (.aload_n 0, 1) := by decide +kernel
theorem dX0_init_5 : decode cX0_init 5 = .ok (.sipush 128, 3) := by decide +kernel
theorem dX0_init_8 : decode cX0_init 8 = .ok (.newarray .int, 2) := by decide +kernel
theorem dX0_init_10 : decode cX0_init 10 = .ok (.putfield 11, 3) := by decide +kernel
theorem dX0_init_13 : decode cX0_init 13 = .ok (.aload_n 0, 1) := by decide +kernel
theorem dX0_init_14 : decode cX0_init 14 = .ok (.bipush 16, 2) := by decide +kernel
theorem dX0_init_16 : decode cX0_init 16 = .ok (.newarray .int, 2) := by decide +kernel
theorem dX0_init_18 : decode cX0_init 18 = .ok (.putfield 15, 3) := by decide +kernel
theorem dX0_init_21 : decode cX0_init 21 = .ok (.aload_n 0, 1) := by decide +kernel
theorem dX0_init_22 : decode cX0_init 22 = .ok (.bipush 16, 2) := by decide +kernel
theorem dX0_init_24 : decode cX0_init 24 = .ok (.newarray .int, 2) := by decide +kernel
theorem dX0_init_26 : decode cX0_init 26 = .ok (.putfield 18, 3) := by decide +kernel
theorem dX0_init_29 : decode cX0_init 29 = .ok (.aload_n 0, 1) := by decide +kernel
theorem dX0_init_30 : decode cX0_init 30 = .ok (.bipush 32, 2) := by decide +kernel
theorem dX0_init_32 : decode cX0_init 32 = .ok (.newarray .int, 2) := by decide +kernel
theorem dX0_init_34 : decode cX0_init 34 = .ok (.putfield 21, 3) := by decide +kernel
theorem dX0_init_37 : decode cX0_init 37 = .ok (.aload_n 0, 1) := by decide +kernel
theorem dX0_init_38 : decode cX0_init 38 = .ok (.bipush 32, 2) := by decide +kernel
theorem dX0_init_40 : decode cX0_init 40 = .ok (.newarray .int, 2) := by decide +kernel
theorem dX0_init_42 : decode cX0_init 42 = .ok (.putfield 24, 3) := by decide +kernel
theorem dX0_init_45 : decode cX0_init 45 = .ok (.aload_n 0, 1) := by decide +kernel
theorem dX0_init_46 : decode cX0_init 46 = .ok (.iconst 1, 1) := by decide +kernel
theorem dX0_init_47 : decode cX0_init 47 = .ok (.putfield 27, 3) := by decide +kernel
theorem dX0_init_50 : decode cX0_init 50 = .ok (.aload_n 0, 1) := by decide +kernel
theorem dX0_init_51 : decode cX0_init 51 = .ok (.iconst 1, 1) := by decide +kernel
theorem dX0_init_52 : decode cX0_init 52 = .ok (.putfield 31, 3) := by decide +kernel
theorem dX0_init_55 : decode cX0_init 55 = .ok (.aload_n 0, 1) := by decide +kernel
theorem dX0_init_56 : decode cX0_init 56 = .ok (.iconst 0, 1) := by decide +kernel
theorem dX0_init_57 : decode cX0_init 57 = .ok (.putfield 34, 3) := by decide +kernel
theorem dX0_init_60 : decode cX0_init 60 = .ok (.aload_n 0, 1) := by decide +kernel
theorem dX0_init_61 : decode cX0_init 61 = .ok (.iconst 1, 1) := by decide +kernel
theorem dX0_init_62 : decode cX0_init 62 = .ok (.putfield 37, 3) := by decide +kernel
theorem dX0_init_65 : decode cX0_init 65 = .ok (.return_, 1) := by decide +kernel
theorem dX0_shape_0 : decode cX0_shape 0 = .ok (.aload_n 0, 1) := by decide +kernel
theorem dX0_shape_1 : decode cX0_shape 1 = .ok (.iload_n 1, 1) := by decide +kernel
theorem dX0_shape_2 : decode cX0_shape 2 = .ok (.putfield 27, 3) := by decide +kernel
theorem dX0_shape_5 : decode cX0_shape 5 = .ok (.aload_n 0, 1) := by decide +kernel
theorem dX0_shape_6 : decode cX0_shape 6 = .ok (.iload_n 2, 1) := by decide +kernel
theorem dX0_shape_7 : decode cX0_shape 7 = .ok (.putfield 31, 3) := by decide +kernel
theorem dX0_shape_10 : decode cX0_shape 10 = .ok (.aload_n 0, 1) := by decide +kernel
theorem dX0_shape_11 : decode cX0_shape 11 = .ok (.iload_n 3, 1) := by decide +kernel
theorem dX0_shape_12 : decode cX0_shape 12 = .ok (.putfield 34, 3) := by decide +kernel
theorem dX0_shape_15 : decode cX0_shape 15 = .ok (.aload_n 0, 1) := by decide +kernel
theorem dX0_shape_16 : decode cX0_shape 16 = .ok (.iload_n 1, 1) := by decide +kernel
theorem dX0_shape_17 : decode cX0_shape 17 = .ok (.iload_n 2, 1) := by decide +kernel
theorem dX0_shape_18 : decode cX0_shape 18 = .ok (.imul, 1) := by decide +kernel
theorem dX0_shape_19 : decode cX0_shape 19 = .ok (.putfield 37, 3) := by decide +kernel
theorem dX0_shape_22 : decode cX0_shape 22 = .ok (.iconst 0, 1) := by decide +kernel
theorem dX0_shape_23 : decode cX0_shape 23 = .ok (.istore 4, 2) := by decide +kernel
theorem dX0_shape_25 : decode cX0_shape 25 = .ok (.iload 4, 2) := by decide +kernel
theorem dX0_shape_27 : decode cX0_shape 27 = .ok (.iload_n 2, 1) := by decide +kernel
theorem dX0_shape_28 : decode cX0_shape 28 = .ok (.if_icmp .ge 78, 3) := by decide +kernel
theorem dX0_shape_31 : decode cX0_shape 31 = .ok (.iconst 0, 1) := by decide +kernel
theorem dX0_shape_32 : decode cX0_shape 32 = .ok (.istore 5, 2) := by decide +kernel
theorem dX0_shape_34 : decode cX0_shape 34 = .ok (.iload 5, 2) := by decide +kernel
theorem dX0_shape_36 : decode cX0_shape 36 = .ok (.iload_n 1, 1) := by decide +kernel
theorem dX0_shape_37 : decode cX0_shape 37 = .ok (.if_icmp .ge 63, 3) := by decide +kernel
theorem dX0_shape_40 : decode cX0_shape 40 = .ok (.aload_n 0, 1) := by decide +kernel
theorem dX0_shape_41 : decode cX0_shape 41 = .ok (.iload 4, 2) := by decide +kernel
theorem dX0_shape_43 : decode cX0_shape 43 = .ok (.iload_n 1, 1) := by decide +kernel
theorem dX0_shape_44 : decode cX0_shape 44 = .ok (.imul, 1) := by decide +kernel
theorem dX0_shape_45 : decode cX0_shape 45 = .ok (.iload 5, 2) := by decide +kernel
theorem dX0_shape_47 : decode cX0_shape 47 = .ok (.iadd, 1) := by decide +kernel
theorem dX0_shape_48 : decode cX0_shape 48 = .ok (.iload 5, 2) := by decide +kernel
theorem dX0_shape_50 : decode cX0_shape 50 = .ok (.iload 4, 2) := by decide +kernel
theorem dX0_shape_52 : decode cX0_shape 52 = .ok (.invokevirtual 40, 3) := by decide +kernel
theorem dX0_shape_55 : decode cX0_shape 55 = .ok (.aload_n 0, 1) := by decide +kernel
theorem dX0_shape_56 : decode cX0_shape 56 = .ok (.iconst 0, 1) := by decide +kernel
theorem dX0_shape_57 : decode cX0_shape 57 = .ok (.iload 4, 2) := by decide +kernel
theorem dX0_shape_59 : decode cX0_shape 59 = .ok (.iload_n 1, 1) := by decide +kernel
theorem dX0_shape_60 : decode cX0_shape 60 = .ok (.imul, 1) := by decide +kernel
theorem dX0_shape_61 : decode cX0_shape 61 = .ok (.iadd, 1) := by decide +kernel
theorem dX0_shape_62 : decode cX0_shape 62 = .ok (.iload 5, 2) := by decide +kernel
theorem dX0_shape_64 : decode cX0_shape 64 = .ok (.iadd, 1) := by decide +kernel
theorem dX0_shape_65 : decode cX0_shape 65 = .ok (.iload 5, 2) := by decide +kernel
theorem dX0_shape_67 : decode cX0_shape 67 = .ok (.iload 4, 2) := by decide +kernel
theorem dX0_shape_69 : decode cX0_shape 69 = .ok (.iconst 1, 1) := by decide +kernel
theorem dX0_shape_70 : decode cX0_shape 70 = .ok (.isub, 1) := by decide +kernel
theorem dX0_shape_71 : decode cX0_shape 71 = .ok (.invokevirtual 44, 3) := by decide +kernel
theorem dX0_shape_74 : decode cX0_shape 74 = .ok (.aload_n 0, 1) := by decide +kernel
theorem dX0_shape_75 : decode cX0_shape 75 = .ok (.bipush 16, 2) := by decide +kernel
theorem dX0_shape_77 : decode cX0_shape 77 = .ok (.iload 4, 2) := by decide +kernel
theorem dX0_shape_79 : decode cX0_shape 79 = .ok (.iload_n 1, 1) := by decide +kernel
theorem dX0_shape_80 : decode cX0_shape 80 = .ok (.imul, 1) := by decide +kernel
theorem dX0_shape_81 : decode cX0_shape 81 = .ok (.iadd, 1) := by decide +kernel
theorem dX0_shape_82 : decode cX0_shape 82 = .ok (.iload 5, 2) := by decide +kernel
theorem dX0_shape_84 : decode cX0_shape 84 = .ok (.iadd, 1) := by decide +kernel
theorem dX0_shape_85 : decode cX0_shape 85 = .ok (.iload 5, 2) := by decide +kernel
theorem dX0_shape_87 : decode cX0_shape 87 = .ok (.iload 4, 2) := by decide +kernel
theorem dX0_shape_89 : decode cX0_shape 89 = .ok (.iconst 1, 1) := by decide +kernel
theorem dX0_shape_90 : decode cX0_shape 90 = .ok (.iadd, 1) := by decide +kernel
theorem dX0_shape_91 : decode cX0_shape 91 = .ok (.invokevirtual 44, 3) := by decide +kernel
theorem dX0_shape_94 : decode cX0_shape 94 = .ok (.iinc 5 1, 3) := by decide +kernel
theorem dX0_shape_97 : decode cX0_shape 97 = .ok (.goto (-63), 3) := by decide +kernel
theorem dX0_shape_100 : decode cX0_shape 100 = .ok (.iinc 4 1, 3) := by decide +kernel
theorem dX0_shape_103 : decode cX0_shape 103 = .ok (.goto (-78), 3) := by decide +kernel
theorem dX0_shape_106 : decode cX0_shape 106 = .ok (.return_, 1) := by decide +kernel
theorem dX0_all_0 : decode cX0_all 0 = .ok (.iconst 1, 1) := by decide +kernel
theorem dX0_all_1 : decode cX0_all 1 = .ok (.aload_n 0, 1) := by decide +kernel
theorem dX0_all_2 : decode cX0_all 2 = .ok (.getfield 37, 3) := by decide +kernel
theorem dX0_all_5 : decode cX0_all 5 = .ok (.ishl, 1) := by decide +kernel
theorem dX0_all_6 : decode cX0_all 6 = .ok (.iconst 1, 1) := by decide +kernel
theorem dX0_all_7 : decode cX0_all 7 = .ok (.isub, 1) := by decide +kernel
theorem dX0_all_8 : decode cX0_all 8 = .ok (.ireturn, 1) := by decide +kernel
theorem dX0_aimed_0 : decode cX0_aimed 0 = .ok (.iload_n 1, 1) := by decide +kernel
theorem dX0_aimed_1 : decode cX0_aimed 1 = .ok (.invokestatic 47, 3) := by decide +kernel
theorem dX0_aimed_4 : decode cX0_aimed 4 = .ok (.tableswitch 87 0 4 #[36, 45, 53, 61, 70], 36) := by decide +kernel
theorem dX0_aimed_40 : decode cX0_aimed 40 = .ok (.aload_n 0, 1) := by decide +kernel
theorem dX0_aimed_41 : decode cX0_aimed 41 = .ok (.getfield 15, 3) := by decide +kernel
theorem dX0_aimed_44 : decode cX0_aimed 44 = .ok (.iload_n 2, 1) := by decide +kernel
theorem dX0_aimed_45 : decode cX0_aimed 45 = .ok (.invokestatic 51, 3) := by decide +kernel
theorem dX0_aimed_48 : decode cX0_aimed 48 = .ok (.ireturn, 1) := by decide +kernel
theorem dX0_aimed_49 : decode cX0_aimed 49 = .ok (.aload_n 0, 1) := by decide +kernel
theorem dX0_aimed_50 : decode cX0_aimed 50 = .ok (.iload_n 2, 1) := by decide +kernel
theorem dX0_aimed_51 : decode cX0_aimed 51 = .ok (.iconst 0, 1) := by decide +kernel
theorem dX0_aimed_52 : decode cX0_aimed 52 = .ok (.iload_n 3, 1) := by decide +kernel
theorem dX0_aimed_53 : decode cX0_aimed 53 = .ok (.invokevirtual 55, 3) := by decide +kernel
theorem dX0_aimed_56 : decode cX0_aimed 56 = .ok (.ireturn, 1) := by decide +kernel
theorem dX0_aimed_57 : decode cX0_aimed 57 = .ok (.aload_n 0, 1) := by decide +kernel
theorem dX0_aimed_58 : decode cX0_aimed 58 = .ok (.iload_n 2, 1) := by decide +kernel
theorem dX0_aimed_59 : decode cX0_aimed 59 = .ok (.iconst 1, 1) := by decide +kernel
theorem dX0_aimed_60 : decode cX0_aimed 60 = .ok (.iload_n 3, 1) := by decide +kernel
theorem dX0_aimed_61 : decode cX0_aimed 61 = .ok (.invokevirtual 55, 3) := by decide +kernel
theorem dX0_aimed_64 : decode cX0_aimed 64 = .ok (.ireturn, 1) := by decide +kernel
theorem dX0_aimed_65 : decode cX0_aimed 65 = .ok (.aload_n 0, 1) := by decide +kernel
theorem dX0_aimed_66 : decode cX0_aimed 66 = .ok (.getfield 18, 3) := by decide +kernel
theorem dX0_aimed_69 : decode cX0_aimed 69 = .ok (.iload_n 2, 1) := by decide +kernel
theorem dX0_aimed_70 : decode cX0_aimed 70 = .ok (.invokestatic 51, 3) := by decide +kernel
theorem dX0_aimed_73 : decode cX0_aimed 73 = .ok (.ireturn, 1) := by decide +kernel
theorem dX0_aimed_74 : decode cX0_aimed 74 = .ok (.aload_n 0, 1) := by decide +kernel
theorem dX0_aimed_75 : decode cX0_aimed 75 = .ok (.getfield 21, 3) := by decide +kernel
theorem dX0_aimed_78 : decode cX0_aimed 78 = .ok (.iload_n 1, 1) := by decide +kernel
theorem dX0_aimed_79 : decode cX0_aimed 79 = .ok (.invokestatic 59, 3) := by decide +kernel
theorem dX0_aimed_82 : decode cX0_aimed 82 = .ok (.bipush 16, 2) := by decide +kernel
theorem dX0_aimed_84 : decode cX0_aimed 84 = .ok (.imul, 1) := by decide +kernel
theorem dX0_aimed_85 : decode cX0_aimed 85 = .ok (.iload_n 2, 1) := by decide +kernel
theorem dX0_aimed_86 : decode cX0_aimed 86 = .ok (.iadd, 1) := by decide +kernel
theorem dX0_aimed_87 : decode cX0_aimed 87 = .ok (.invokestatic 51, 3) := by decide +kernel
theorem dX0_aimed_90 : decode cX0_aimed 90 = .ok (.ireturn, 1) := by decide +kernel
theorem dX0_aimed_91 : decode cX0_aimed 91 = .ok (.iconst 0, 1) := by decide +kernel
theorem dX0_aimed_92 : decode cX0_aimed 92 = .ok (.ireturn, 1) := by decide +kernel
theorem dX0_going_0 : decode cX0_going 0 = .ok (.iload_n 1, 1) := by decide +kernel
theorem dX0_going_1 : decode cX0_going 1 = .ok (.invokestatic 47, 3) := by decide +kernel
theorem dX0_going_4 : decode cX0_going 4 = .ok (.iconst 4, 1) := by decide +kernel
theorem dX0_going_5 : decode cX0_going 5 = .ok (.if_icmp .ne 22, 3) := by decide +kernel
theorem dX0_going_8 : decode cX0_going 8 = .ok (.aload_n 0, 1) := by decide +kernel
theorem dX0_going_9 : decode cX0_going 9 = .ok (.getfield 24, 3) := by decide +kernel
theorem dX0_going_12 : decode cX0_going 12 = .ok (.iload_n 1, 1) := by decide +kernel
theorem dX0_going_13 : decode cX0_going 13 = .ok (.invokestatic 59, 3) := by decide +kernel
theorem dX0_going_16 : decode cX0_going 16 = .ok (.bipush 16, 2) := by decide +kernel
theorem dX0_going_18 : decode cX0_going 18 = .ok (.imul, 1) := by decide +kernel
theorem dX0_going_19 : decode cX0_going 19 = .ok (.iload_n 2, 1) := by decide +kernel
theorem dX0_going_20 : decode cX0_going 20 = .ok (.iadd, 1) := by decide +kernel
theorem dX0_going_21 : decode cX0_going 21 = .ok (.invokestatic 51, 3) := by decide +kernel
theorem dX0_going_24 : decode cX0_going 24 = .ok (.goto 4, 3) := by decide +kernel
theorem dX0_going_27 : decode cX0_going 27 = .ok (.iload_n 3, 1) := by decide +kernel
theorem dX0_going_28 : decode cX0_going 28 = .ok (.ireturn, 1) := by decide +kernel
theorem dX0_coming_0 : decode cX0_coming 0 = .ok (.iload_n 1, 1) := by decide +kernel
theorem dX0_coming_1 : decode cX0_coming 1 = .ok (.invokestatic 47, 3) := by decide +kernel
theorem dX0_coming_4 : decode cX0_coming 4 = .ok (.iconst (-1), 1) := by decide +kernel
theorem dX0_coming_5 : decode cX0_coming 5 = .ok (.if_icmp .ne 5, 3) := by decide +kernel
theorem dX0_coming_8 : decode cX0_coming 8 = .ok (.iconst 0, 1) := by decide +kernel
theorem dX0_coming_9 : decode cX0_coming 9 = .ok (.ireturn, 1) := by decide +kernel
theorem dX0_coming_10 : decode cX0_coming 10 = .ok (.iconst 1, 1) := by decide +kernel
theorem dX0_coming_11 : decode cX0_coming 11 = .ok (.iload_n 2, 1) := by decide +kernel
theorem dX0_coming_12 : decode cX0_coming 12 = .ok (.ishl, 1) := by decide +kernel
theorem dX0_coming_13 : decode cX0_coming 13 = .ok (.istore 4, 2) := by decide +kernel
theorem dX0_coming_15 : decode cX0_coming 15 = .ok (.iconst 0, 1) := by decide +kernel
theorem dX0_coming_16 : decode cX0_coming 16 = .ok (.istore 5, 2) := by decide +kernel
theorem dX0_coming_18 : decode cX0_coming 18 = .ok (.iconst 0, 1) := by decide +kernel
theorem dX0_coming_19 : decode cX0_coming 19 = .ok (.istore 6, 2) := by decide +kernel
theorem dX0_coming_21 : decode cX0_coming 21 = .ok (.iload 6, 2) := by decide +kernel
theorem dX0_coming_23 : decode cX0_coming 23 = .ok (.bipush 16, 2) := by decide +kernel
theorem dX0_coming_25 : decode cX0_coming 25 = .ok (.if_icmp .ge 61, 3) := by decide +kernel
theorem dX0_coming_28 : decode cX0_coming 28 = .ok (.iload 4, 2) := by decide +kernel
theorem dX0_coming_30 : decode cX0_coming 30 = .ok (.iload 5, 2) := by decide +kernel
theorem dX0_coming_32 : decode cX0_coming 32 = .ok (.if_icmp .eq 54, 3) := by decide +kernel
theorem dX0_coming_35 : decode cX0_coming 35 = .ok (.iload 4, 2) := by decide +kernel
theorem dX0_coming_37 : decode cX0_coming 37 = .ok (.iload 5, 2) := by decide +kernel
theorem dX0_coming_39 : decode cX0_coming 39 = .ok (.iconst (-1), 1) := by decide +kernel
theorem dX0_coming_40 : decode cX0_coming 40 = .ok (.ixor, 1) := by decide +kernel
theorem dX0_coming_41 : decode cX0_coming 41 = .ok (.iand, 1) := by decide +kernel
theorem dX0_coming_42 : decode cX0_coming 42 = .ok (.invokestatic 62, 3) := by decide +kernel
theorem dX0_coming_45 : decode cX0_coming 45 = .ok (.istore 7, 2) := by decide +kernel
theorem dX0_coming_47 : decode cX0_coming 47 = .ok (.iload 5, 2) := by decide +kernel
theorem dX0_coming_49 : decode cX0_coming 49 = .ok (.iconst 1, 1) := by decide +kernel
theorem dX0_coming_50 : decode cX0_coming 50 = .ok (.iload 7, 2) := by decide +kernel
theorem dX0_coming_52 : decode cX0_coming 52 = .ok (.ishl, 1) := by decide +kernel
theorem dX0_coming_53 : decode cX0_coming 53 = .ok (.ior, 1) := by decide +kernel
theorem dX0_coming_54 : decode cX0_coming 54 = .ok (.istore 5, 2) := by decide +kernel
theorem dX0_coming_56 : decode cX0_coming 56 = .ok (.iload 4, 2) := by decide +kernel
theorem dX0_coming_58 : decode cX0_coming 58 = .ok (.aload_n 0, 1) := by decide +kernel
theorem dX0_coming_59 : decode cX0_coming 59 = .ok (.iload_n 1, 1) := by decide +kernel
theorem dX0_coming_60 : decode cX0_coming 60 = .ok (.iload 7, 2) := by decide +kernel
theorem dX0_coming_62 : decode cX0_coming 62 = .ok (.aload_n 0, 1) := by decide +kernel
theorem dX0_coming_63 : decode cX0_coming 63 = .ok (.iload_n 1, 1) := by decide +kernel
theorem dX0_coming_64 : decode cX0_coming 64 = .ok (.iload 7, 2) := by decide +kernel
theorem dX0_coming_66 : decode cX0_coming 66 = .ok (.iload_n 3, 1) := by decide +kernel
theorem dX0_coming_67 : decode cX0_coming 67 = .ok (.invokevirtual 65, 3) := by decide +kernel
theorem dX0_coming_70 : decode cX0_coming 70 = .ok (.invokevirtual 68, 3) := by decide +kernel
theorem dX0_coming_73 : decode cX0_coming 73 = .ok (.iload_n 3, 1) := by decide +kernel
theorem dX0_coming_74 : decode cX0_coming 74 = .ok (.iconst (-1), 1) := by decide +kernel
theorem dX0_coming_75 : decode cX0_coming 75 = .ok (.ixor, 1) := by decide +kernel
theorem dX0_coming_76 : decode cX0_coming 76 = .ok (.iand, 1) := by decide +kernel
theorem dX0_coming_77 : decode cX0_coming 77 = .ok (.ior, 1) := by decide +kernel
theorem dX0_coming_78 : decode cX0_coming 78 = .ok (.istore 4, 2) := by decide +kernel
theorem dX0_coming_80 : decode cX0_coming 80 = .ok (.iinc 6 1, 3) := by decide +kernel
theorem dX0_coming_83 : decode cX0_coming 83 = .ok (.goto (-62), 3) := by decide +kernel
theorem dX0_coming_86 : decode cX0_coming 86 = .ok (.iload 4, 2) := by decide +kernel
theorem dX0_coming_88 : decode cX0_coming 88 = .ok (.ireturn, 1) := by decide +kernel
theorem dX0_threatened_0 : decode cX0_threatened 0 = .ok (.aload_n 0, 1) := by decide +kernel
theorem dX0_threatened_1 : decode cX0_threatened 1 = .ok (.iload_n 1, 1) := by decide +kernel
theorem dX0_threatened_2 : decode cX0_threatened 2 = .ok (.iload_n 2, 1) := by decide +kernel
theorem dX0_threatened_3 : decode cX0_threatened 3 = .ok (.iload_n 3, 1) := by decide +kernel
theorem dX0_threatened_4 : decode cX0_threatened 4 = .ok (.invokevirtual 71, 3) := by decide +kernel
theorem dX0_threatened_7 : decode cX0_threatened 7 = .ok (.istore 4, 2) := by decide +kernel
theorem dX0_threatened_9 : decode cX0_threatened 9 = .ok (.iconst 0, 1) := by decide +kernel
theorem dX0_threatened_10 : decode cX0_threatened 10 = .ok (.istore 5, 2) := by decide +kernel
theorem dX0_threatened_12 : decode cX0_threatened 12 = .ok (.iconst 0, 1) := by decide +kernel
theorem dX0_threatened_13 : decode cX0_threatened 13 = .ok (.istore 6, 2) := by decide +kernel
theorem dX0_threatened_15 : decode cX0_threatened 15 = .ok (.iload 6, 2) := by decide +kernel
theorem dX0_threatened_17 : decode cX0_threatened 17 = .ok (.aload_n 0, 1) := by decide +kernel
theorem dX0_threatened_18 : decode cX0_threatened 18 = .ok (.getfield 37, 3) := by decide +kernel
theorem dX0_threatened_21 : decode cX0_threatened 21 = .ok (.if_icmp .ge 32, 3) := by decide +kernel
theorem dX0_threatened_24 : decode cX0_threatened 24 = .ok (.iload 4, 2) := by decide +kernel
theorem dX0_threatened_26 : decode cX0_threatened 26 = .ok (.iload 6, 2) := by decide +kernel
theorem dX0_threatened_28 : decode cX0_threatened 28 = .ok (.invokestatic 74, 3) := by decide +kernel
theorem dX0_threatened_31 : decode cX0_threatened 31 = .ok (.ifCond .eq 16, 3) := by decide +kernel
theorem dX0_threatened_34 : decode cX0_threatened 34 = .ok (.iload 5, 2) := by decide +kernel
theorem dX0_threatened_36 : decode cX0_threatened 36 = .ok (.aload_n 0, 1) := by decide +kernel
theorem dX0_threatened_37 : decode cX0_threatened 37 = .ok (.iload_n 1, 1) := by decide +kernel
theorem dX0_threatened_38 : decode cX0_threatened 38 = .ok (.iload 6, 2) := by decide +kernel
theorem dX0_threatened_40 : decode cX0_threatened 40 = .ok (.iload_n 3, 1) := by decide +kernel
theorem dX0_threatened_41 : decode cX0_threatened 41 = .ok (.invokevirtual 65, 3) := by decide +kernel
theorem dX0_threatened_44 : decode cX0_threatened 44 = .ok (.ior, 1) := by decide +kernel
theorem dX0_threatened_45 : decode cX0_threatened 45 = .ok (.istore 5, 2) := by decide +kernel
theorem dX0_threatened_47 : decode cX0_threatened 47 = .ok (.iinc 6 1, 3) := by decide +kernel
theorem dX0_threatened_50 : decode cX0_threatened 50 = .ok (.goto (-35), 3) := by decide +kernel
theorem dX0_threatened_53 : decode cX0_threatened 53 = .ok (.iload 5, 2) := by decide +kernel
theorem dX0_threatened_55 : decode cX0_threatened 55 = .ok (.ireturn, 1) := by decide +kernel
theorem dX0_hanging_0 : decode cX0_hanging 0 = .ok (.iconst 1, 1) := by decide +kernel
theorem dX0_hanging_1 : decode cX0_hanging 1 = .ok (.iload_n 1, 1) := by decide +kernel
theorem dX0_hanging_2 : decode cX0_hanging 2 = .ok (.ishl, 1) := by decide +kernel
theorem dX0_hanging_3 : decode cX0_hanging 3 = .ok (.istore_n 3, 1) := by decide +kernel
theorem dX0_hanging_4 : decode cX0_hanging 4 = .ok (.iconst 0, 1) := by decide +kernel
theorem dX0_hanging_5 : decode cX0_hanging 5 = .ok (.istore 4, 2) := by decide +kernel
theorem dX0_hanging_7 : decode cX0_hanging 7 = .ok (.iconst 0, 1) := by decide +kernel
theorem dX0_hanging_8 : decode cX0_hanging 8 = .ok (.istore 5, 2) := by decide +kernel
theorem dX0_hanging_10 : decode cX0_hanging 10 = .ok (.iload 5, 2) := by decide +kernel
theorem dX0_hanging_12 : decode cX0_hanging 12 = .ok (.bipush 16, 2) := by decide +kernel
theorem dX0_hanging_14 : decode cX0_hanging 14 = .ok (.if_icmp .ge 49, 3) := by decide +kernel
theorem dX0_hanging_17 : decode cX0_hanging 17 = .ok (.iload_n 3, 1) := by decide +kernel
theorem dX0_hanging_18 : decode cX0_hanging 18 = .ok (.iload 4, 2) := by decide +kernel
theorem dX0_hanging_20 : decode cX0_hanging 20 = .ok (.if_icmp .eq 43, 3) := by decide +kernel
theorem dX0_hanging_23 : decode cX0_hanging 23 = .ok (.iload_n 3, 1) := by decide +kernel
theorem dX0_hanging_24 : decode cX0_hanging 24 = .ok (.iload 4, 2) := by decide +kernel
theorem dX0_hanging_26 : decode cX0_hanging 26 = .ok (.iconst (-1), 1) := by decide +kernel
theorem dX0_hanging_27 : decode cX0_hanging 27 = .ok (.ixor, 1) := by decide +kernel
theorem dX0_hanging_28 : decode cX0_hanging 28 = .ok (.iand, 1) := by decide +kernel
theorem dX0_hanging_29 : decode cX0_hanging 29 = .ok (.invokestatic 62, 3) := by decide +kernel
theorem dX0_hanging_32 : decode cX0_hanging 32 = .ok (.istore 6, 2) := by decide +kernel
theorem dX0_hanging_34 : decode cX0_hanging 34 = .ok (.iload 4, 2) := by decide +kernel
theorem dX0_hanging_36 : decode cX0_hanging 36 = .ok (.iconst 1, 1) := by decide +kernel
theorem dX0_hanging_37 : decode cX0_hanging 37 = .ok (.iload 6, 2) := by decide +kernel
theorem dX0_hanging_39 : decode cX0_hanging 39 = .ok (.ishl, 1) := by decide +kernel
theorem dX0_hanging_40 : decode cX0_hanging 40 = .ok (.ior, 1) := by decide +kernel
theorem dX0_hanging_41 : decode cX0_hanging 41 = .ok (.istore 4, 2) := by decide +kernel
theorem dX0_hanging_43 : decode cX0_hanging 43 = .ok (.iload_n 3, 1) := by decide +kernel
theorem dX0_hanging_44 : decode cX0_hanging 44 = .ok (.aload_n 0, 1) := by decide +kernel
theorem dX0_hanging_45 : decode cX0_hanging 45 = .ok (.getfield 15, 3) := by decide +kernel
theorem dX0_hanging_48 : decode cX0_hanging 48 = .ok (.iload 6, 2) := by decide +kernel
theorem dX0_hanging_50 : decode cX0_hanging 50 = .ok (.invokestatic 51, 3) := by decide +kernel
theorem dX0_hanging_53 : decode cX0_hanging 53 = .ok (.iload_n 2, 1) := by decide +kernel
theorem dX0_hanging_54 : decode cX0_hanging 54 = .ok (.iand, 1) := by decide +kernel
theorem dX0_hanging_55 : decode cX0_hanging 55 = .ok (.ior, 1) := by decide +kernel
theorem dX0_hanging_56 : decode cX0_hanging 56 = .ok (.istore_n 3, 1) := by decide +kernel
theorem dX0_hanging_57 : decode cX0_hanging 57 = .ok (.iinc 5 1, 3) := by decide +kernel
theorem dX0_hanging_60 : decode cX0_hanging 60 = .ok (.goto (-50), 3) := by decide +kernel
theorem dX0_hanging_63 : decode cX0_hanging 63 = .ok (.iload_n 3, 1) := by decide +kernel
theorem dX0_hanging_64 : decode cX0_hanging 64 = .ok (.ireturn, 1) := by decide +kernel
theorem dX0_surround_0 : decode cX0_surround 0 = .ok (.iconst 0, 1) := by decide +kernel
theorem dX0_surround_1 : decode cX0_surround 1 = .ok (.istore 4, 2) := by decide +kernel
theorem dX0_surround_3 : decode cX0_surround 3 = .ok (.iconst 0, 1) := by decide +kernel
theorem dX0_surround_4 : decode cX0_surround 4 = .ok (.istore 5, 2) := by decide +kernel
theorem dX0_surround_6 : decode cX0_surround 6 = .ok (.iconst 0, 1) := by decide +kernel
theorem dX0_surround_7 : decode cX0_surround 7 = .ok (.istore 6, 2) := by decide +kernel
theorem dX0_surround_9 : decode cX0_surround 9 = .ok (.iload 6, 2) := by decide +kernel
theorem dX0_surround_11 : decode cX0_surround 11 = .ok (.bipush 8, 2) := by decide +kernel
theorem dX0_surround_13 : decode cX0_surround 13 = .ok (.if_icmp .ge 93, 3) := by decide +kernel
theorem dX0_surround_16 : decode cX0_surround 16 = .ok (.aload_n 0, 1) := by decide +kernel
theorem dX0_surround_17 : decode cX0_surround 17 = .ok (.iload_n 2, 1) := by decide +kernel
theorem dX0_surround_18 : decode cX0_surround 18 = .ok (.getstatic 78, 3) := by decide +kernel
theorem dX0_surround_21 : decode cX0_surround 21 = .ok (.iload 6, 2) := by decide +kernel
theorem dX0_surround_23 : decode cX0_surround 23 = .ok (.invokestatic 51, 3) := by decide +kernel
theorem dX0_surround_26 : decode cX0_surround 26 = .ok (.iadd, 1) := by decide +kernel
theorem dX0_surround_27 : decode cX0_surround 27 = .ok (.iload_n 3, 1) := by decide +kernel
theorem dX0_surround_28 : decode cX0_surround 28 = .ok (.getstatic 81, 3) := by decide +kernel
theorem dX0_surround_31 : decode cX0_surround 31 = .ok (.iload 6, 2) := by decide +kernel
theorem dX0_surround_33 : decode cX0_surround 33 = .ok (.invokestatic 51, 3) := by decide +kernel
theorem dX0_surround_36 : decode cX0_surround 36 = .ok (.iadd, 1) := by decide +kernel
theorem dX0_surround_37 : decode cX0_surround 37 = .ok (.invokevirtual 84, 3) := by decide +kernel
theorem dX0_surround_40 : decode cX0_surround 40 = .ok (.istore 7, 2) := by decide +kernel
theorem dX0_surround_42 : decode cX0_surround 42 = .ok (.aload_n 0, 1) := by decide +kernel
theorem dX0_surround_43 : decode cX0_surround 43 = .ok (.getfield 11, 3) := by decide +kernel
theorem dX0_surround_46 : decode cX0_surround 46 = .ok (.iload 6, 2) := by decide +kernel
theorem dX0_surround_48 : decode cX0_surround 48 = .ok (.bipush 16, 2) := by decide +kernel
theorem dX0_surround_50 : decode cX0_surround 50 = .ok (.imul, 1) := by decide +kernel
theorem dX0_surround_51 : decode cX0_surround 51 = .ok (.iload_n 1, 1) := by decide +kernel
theorem dX0_surround_52 : decode cX0_surround 52 = .ok (.iadd, 1) := by decide +kernel
theorem dX0_surround_53 : decode cX0_surround 53 = .ok (.iload 7, 2) := by decide +kernel
theorem dX0_surround_55 : decode cX0_surround 55 = .ok (.invokestatic 88, 3) := by decide +kernel
theorem dX0_surround_58 : decode cX0_surround 58 = .ok (.iload 4, 2) := by decide +kernel
theorem dX0_surround_60 : decode cX0_surround 60 = .ok (.iload 7, 2) := by decide +kernel
theorem dX0_surround_62 : decode cX0_surround 62 = .ok (.invokestatic 92, 3) := by decide +kernel
theorem dX0_surround_65 : decode cX0_surround 65 = .ok (.ior, 1) := by decide +kernel
theorem dX0_surround_66 : decode cX0_surround 66 = .ok (.istore 4, 2) := by decide +kernel
theorem dX0_surround_68 : decode cX0_surround 68 = .ok (.iload 5, 2) := by decide +kernel
theorem dX0_surround_70 : decode cX0_surround 70 = .ok (.aload_n 0, 1) := by decide +kernel
theorem dX0_surround_71 : decode cX0_surround 71 = .ok (.iload_n 2, 1) := by decide +kernel
theorem dX0_surround_72 : decode cX0_surround 72 = .ok (.getstatic 95, 3) := by decide +kernel
theorem dX0_surround_75 : decode cX0_surround 75 = .ok (.iload 6, 2) := by decide +kernel
theorem dX0_surround_77 : decode cX0_surround 77 = .ok (.invokestatic 51, 3) := by decide +kernel
theorem dX0_surround_80 : decode cX0_surround 80 = .ok (.iadd, 1) := by decide +kernel
theorem dX0_surround_81 : decode cX0_surround 81 = .ok (.iload_n 3, 1) := by decide +kernel
theorem dX0_surround_82 : decode cX0_surround 82 = .ok (.getstatic 98, 3) := by decide +kernel
theorem dX0_surround_85 : decode cX0_surround 85 = .ok (.iload 6, 2) := by decide +kernel
theorem dX0_surround_87 : decode cX0_surround 87 = .ok (.invokestatic 51, 3) := by decide +kernel
theorem dX0_surround_90 : decode cX0_surround 90 = .ok (.iadd, 1) := by decide +kernel
theorem dX0_surround_91 : decode cX0_surround 91 = .ok (.invokevirtual 84, 3) := by decide +kernel
theorem dX0_surround_94 : decode cX0_surround 94 = .ok (.invokestatic 92, 3) := by decide +kernel
theorem dX0_surround_97 : decode cX0_surround 97 = .ok (.ior, 1) := by decide +kernel
theorem dX0_surround_98 : decode cX0_surround 98 = .ok (.istore 5, 2) := by decide +kernel
theorem dX0_surround_100 : decode cX0_surround 100 = .ok (.iinc 6 1, 3) := by decide +kernel
theorem dX0_surround_103 : decode cX0_surround 103 = .ok (.goto (-94), 3) := by decide +kernel
theorem dX0_surround_106 : decode cX0_surround 106 = .ok (.aload_n 0, 1) := by decide +kernel
theorem dX0_surround_107 : decode cX0_surround 107 = .ok (.getfield 15, 3) := by decide +kernel
theorem dX0_surround_110 : decode cX0_surround 110 = .ok (.iload_n 1, 1) := by decide +kernel
theorem dX0_surround_111 : decode cX0_surround 111 = .ok (.iload 4, 2) := by decide +kernel
theorem dX0_surround_113 : decode cX0_surround 113 = .ok (.invokestatic 88, 3) := by decide +kernel
theorem dX0_surround_116 : decode cX0_surround 116 = .ok (.aload_n 0, 1) := by decide +kernel
theorem dX0_surround_117 : decode cX0_surround 117 = .ok (.getfield 18, 3) := by decide +kernel
theorem dX0_surround_120 : decode cX0_surround 120 = .ok (.iload_n 1, 1) := by decide +kernel
theorem dX0_surround_121 : decode cX0_surround 121 = .ok (.iload 5, 2) := by decide +kernel
theorem dX0_surround_123 : decode cX0_surround 123 = .ok (.invokestatic 88, 3) := by decide +kernel
theorem dX0_surround_126 : decode cX0_surround 126 = .ok (.return_, 1) := by decide +kernel
theorem dX0_lookAhead_0 : decode cX0_lookAhead 0 = .ok (.aload_n 0, 1) := by decide +kernel
theorem dX0_lookAhead_1 : decode cX0_lookAhead 1 = .ok (.getfield 24, 3) := by decide +kernel
theorem dX0_lookAhead_4 : decode cX0_lookAhead 4 = .ok (.iload_n 1, 1) := by decide +kernel
theorem dX0_lookAhead_5 : decode cX0_lookAhead 5 = .ok (.aload_n 0, 1) := by decide +kernel
theorem dX0_lookAhead_6 : decode cX0_lookAhead 6 = .ok (.iload_n 2, 1) := by decide +kernel
theorem dX0_lookAhead_7 : decode cX0_lookAhead 7 = .ok (.iload_n 3, 1) := by decide +kernel
theorem dX0_lookAhead_8 : decode cX0_lookAhead 8 = .ok (.invokevirtual 84, 3) := by decide +kernel
theorem dX0_lookAhead_11 : decode cX0_lookAhead 11 = .ok (.invokestatic 92, 3) := by decide +kernel
theorem dX0_lookAhead_14 : decode cX0_lookAhead 14 = .ok (.invokestatic 88, 3) := by decide +kernel
theorem dX0_lookAhead_17 : decode cX0_lookAhead 17 = .ok (.aload_n 0, 1) := by decide +kernel
theorem dX0_lookAhead_18 : decode cX0_lookAhead 18 = .ok (.getfield 21, 3) := by decide +kernel
theorem dX0_lookAhead_21 : decode cX0_lookAhead 21 = .ok (.iload_n 1, 1) := by decide +kernel
theorem dX0_lookAhead_22 : decode cX0_lookAhead 22 = .ok (.aload_n 0, 1) := by decide +kernel
theorem dX0_lookAhead_23 : decode cX0_lookAhead 23 = .ok (.iload_n 2, 1) := by decide +kernel
theorem dX0_lookAhead_24 : decode cX0_lookAhead 24 = .ok (.iconst 1, 1) := by decide +kernel
theorem dX0_lookAhead_25 : decode cX0_lookAhead 25 = .ok (.isub, 1) := by decide +kernel
theorem dX0_lookAhead_26 : decode cX0_lookAhead 26 = .ok (.iload_n 3, 1) := by decide +kernel
theorem dX0_lookAhead_27 : decode cX0_lookAhead 27 = .ok (.invokevirtual 84, 3) := by decide +kernel
theorem dX0_lookAhead_30 : decode cX0_lookAhead 30 = .ok (.invokestatic 92, 3) := by decide +kernel
theorem dX0_lookAhead_33 : decode cX0_lookAhead 33 = .ok (.aload_n 0, 1) := by decide +kernel
theorem dX0_lookAhead_34 : decode cX0_lookAhead 34 = .ok (.iload_n 2, 1) := by decide +kernel
theorem dX0_lookAhead_35 : decode cX0_lookAhead 35 = .ok (.iconst 1, 1) := by decide +kernel
theorem dX0_lookAhead_36 : decode cX0_lookAhead 36 = .ok (.iadd, 1) := by decide +kernel
theorem dX0_lookAhead_37 : decode cX0_lookAhead 37 = .ok (.iload_n 3, 1) := by decide +kernel
theorem dX0_lookAhead_38 : decode cX0_lookAhead 38 = .ok (.invokevirtual 84, 3) := by decide +kernel
theorem dX0_lookAhead_41 : decode cX0_lookAhead 41 = .ok (.invokestatic 92, 3) := by decide +kernel
theorem dX0_lookAhead_44 : decode cX0_lookAhead 44 = .ok (.ior, 1) := by decide +kernel
theorem dX0_lookAhead_45 : decode cX0_lookAhead 45 = .ok (.invokestatic 88, 3) := by decide +kernel
theorem dX0_lookAhead_48 : decode cX0_lookAhead 48 = .ok (.return_, 1) := by decide +kernel
theorem dX0_cellAt_0 : decode cX0_cellAt 0 = .ok (.iload_n 1, 1) := by decide +kernel
theorem dX0_cellAt_1 : decode cX0_cellAt 1 = .ok (.ifCond .lt 27, 3) := by decide +kernel
theorem dX0_cellAt_4 : decode cX0_cellAt 4 = .ok (.iload_n 1, 1) := by decide +kernel
theorem dX0_cellAt_5 : decode cX0_cellAt 5 = .ok (.aload_n 0, 1) := by decide +kernel
theorem dX0_cellAt_6 : decode cX0_cellAt 6 = .ok (.getfield 27, 3) := by decide +kernel
theorem dX0_cellAt_9 : decode cX0_cellAt 9 = .ok (.if_icmp .ge 19, 3) := by decide +kernel
theorem dX0_cellAt_12 : decode cX0_cellAt 12 = .ok (.iload_n 2, 1) := by decide +kernel
theorem dX0_cellAt_13 : decode cX0_cellAt 13 = .ok (.ifCond .lt 15, 3) := by decide +kernel
theorem dX0_cellAt_16 : decode cX0_cellAt 16 = .ok (.iload_n 2, 1) := by decide +kernel
theorem dX0_cellAt_17 : decode cX0_cellAt 17 = .ok (.aload_n 0, 1) := by decide +kernel
theorem dX0_cellAt_18 : decode cX0_cellAt 18 = .ok (.getfield 31, 3) := by decide +kernel
theorem dX0_cellAt_21 : decode cX0_cellAt 21 = .ok (.if_icmp .ge 7, 3) := by decide +kernel
theorem dX0_cellAt_24 : decode cX0_cellAt 24 = .ok (.iconst 1, 1) := by decide +kernel
theorem dX0_cellAt_25 : decode cX0_cellAt 25 = .ok (.goto 4, 3) := by decide +kernel
theorem dX0_cellAt_28 : decode cX0_cellAt 28 = .ok (.iconst 0, 1) := by decide +kernel
theorem dX0_cellAt_29 : decode cX0_cellAt 29 = .ok (.istore_n 3, 1) := by decide +kernel
theorem dX0_cellAt_30 : decode cX0_cellAt 30 = .ok (.iload_n 3, 1) := by decide +kernel
theorem dX0_cellAt_31 : decode cX0_cellAt 31 = .ok (.ifCond .eq 14, 3) := by decide +kernel
theorem dX0_cellAt_34 : decode cX0_cellAt 34 = .ok (.iload_n 2, 1) := by decide +kernel
theorem dX0_cellAt_35 : decode cX0_cellAt 35 = .ok (.aload_n 0, 1) := by decide +kernel
theorem dX0_cellAt_36 : decode cX0_cellAt 36 = .ok (.getfield 27, 3) := by decide +kernel
theorem dX0_cellAt_39 : decode cX0_cellAt 39 = .ok (.imul, 1) := by decide +kernel
theorem dX0_cellAt_40 : decode cX0_cellAt 40 = .ok (.iload_n 1, 1) := by decide +kernel
theorem dX0_cellAt_41 : decode cX0_cellAt 41 = .ok (.iadd, 1) := by decide +kernel
theorem dX0_cellAt_42 : decode cX0_cellAt 42 = .ok (.goto 4, 3) := by decide +kernel
theorem dX0_cellAt_45 : decode cX0_cellAt 45 = .ok (.iconst (-1), 1) := by decide +kernel
theorem dX0_cellAt_46 : decode cX0_cellAt 46 = .ok (.ireturn, 1) := by decide +kernel
theorem dX0_bitOf_0 : decode cX0_bitOf 0 = .ok (.iload_n 0, 1) := by decide +kernel
theorem dX0_bitOf_1 : decode cX0_bitOf 1 = .ok (.iconst (-1), 1) := by decide +kernel
theorem dX0_bitOf_2 : decode cX0_bitOf 2 = .ok (.if_icmp .ne 7, 3) := by decide +kernel
theorem dX0_bitOf_5 : decode cX0_bitOf 5 = .ok (.iconst 0, 1) := by decide +kernel
theorem dX0_bitOf_6 : decode cX0_bitOf 6 = .ok (.goto 6, 3) := by decide +kernel
theorem dX0_bitOf_9 : decode cX0_bitOf 9 = .ok (.iconst 1, 1) := by decide +kernel
theorem dX0_bitOf_10 : decode cX0_bitOf 10 = .ok (.iload_n 0, 1) := by decide +kernel
theorem dX0_bitOf_11 : decode cX0_bitOf 11 = .ok (.ishl, 1) := by decide +kernel
theorem dX0_bitOf_12 : decode cX0_bitOf 12 = .ok (.ireturn, 1) := by decide +kernel
theorem dX0_lines_0 : decode cX0_lines 0 = .ok (.iconst 0, 1) := by decide +kernel
theorem dX0_lines_1 : decode cX0_lines 1 = .ok (.istore 4, 2) := by decide +kernel
theorem dX0_lines_3 : decode cX0_lines 3 = .ok (.iload_n 2, 1) := by decide +kernel
theorem dX0_lines_4 : decode cX0_lines 4 = .ok (.istore 5, 2) := by decide +kernel
theorem dX0_lines_6 : decode cX0_lines 6 = .ok (.iload 5, 2) := by decide +kernel
theorem dX0_lines_8 : decode cX0_lines 8 = .ok (.bipush 8, 2) := by decide +kernel
theorem dX0_lines_10 : decode cX0_lines 10 = .ok (.if_icmp .ge 85, 3) := by decide +kernel
theorem dX0_lines_13 : decode cX0_lines 13 = .ok (.aload_n 0, 1) := by decide +kernel
theorem dX0_lines_14 : decode cX0_lines 14 = .ok (.getfield 11, 3) := by decide +kernel
theorem dX0_lines_17 : decode cX0_lines 17 = .ok (.iload 5, 2) := by decide +kernel
theorem dX0_lines_19 : decode cX0_lines 19 = .ok (.bipush 16, 2) := by decide +kernel
theorem dX0_lines_21 : decode cX0_lines 21 = .ok (.imul, 1) := by decide +kernel
theorem dX0_lines_22 : decode cX0_lines 22 = .ok (.iload_n 1, 1) := by decide +kernel
theorem dX0_lines_23 : decode cX0_lines 23 = .ok (.iadd, 1) := by decide +kernel
theorem dX0_lines_24 : decode cX0_lines 24 = .ok (.invokestatic 51, 3) := by decide +kernel
theorem dX0_lines_27 : decode cX0_lines 27 = .ok (.istore 6, 2) := by decide +kernel
theorem dX0_lines_29 : decode cX0_lines 29 = .ok (.iconst 1, 1) := by decide +kernel
theorem dX0_lines_30 : decode cX0_lines 30 = .ok (.istore 7, 2) := by decide +kernel
theorem dX0_lines_32 : decode cX0_lines 32 = .ok (.iload 7, 2) := by decide +kernel
theorem dX0_lines_34 : decode cX0_lines 34 = .ok (.iconst 4, 1) := by decide +kernel
theorem dX0_lines_35 : decode cX0_lines 35 = .ok (.if_icmp .ge 54, 3) := by decide +kernel
theorem dX0_lines_38 : decode cX0_lines 38 = .ok (.iload 6, 2) := by decide +kernel
theorem dX0_lines_40 : decode cX0_lines 40 = .ok (.iconst (-1), 1) := by decide +kernel
theorem dX0_lines_41 : decode cX0_lines 41 = .ok (.if_icmp .eq 48, 3) := by decide +kernel
theorem dX0_lines_44 : decode cX0_lines 44 = .ok (.iload 4, 2) := by decide +kernel
theorem dX0_lines_46 : decode cX0_lines 46 = .ok (.iconst 1, 1) := by decide +kernel
theorem dX0_lines_47 : decode cX0_lines 47 = .ok (.iload 6, 2) := by decide +kernel
theorem dX0_lines_49 : decode cX0_lines 49 = .ok (.ishl, 1) := by decide +kernel
theorem dX0_lines_50 : decode cX0_lines 50 = .ok (.ior, 1) := by decide +kernel
theorem dX0_lines_51 : decode cX0_lines 51 = .ok (.istore 4, 2) := by decide +kernel
theorem dX0_lines_53 : decode cX0_lines 53 = .ok (.iload_n 3, 1) := by decide +kernel
theorem dX0_lines_54 : decode cX0_lines 54 = .ok (.iload 6, 2) := by decide +kernel
theorem dX0_lines_56 : decode cX0_lines 56 = .ok (.invokestatic 74, 3) := by decide +kernel
theorem dX0_lines_59 : decode cX0_lines 59 = .ok (.ifCond .eq 7, 3) := by decide +kernel
theorem dX0_lines_62 : decode cX0_lines 62 = .ok (.iconst (-1), 1) := by decide +kernel
theorem dX0_lines_63 : decode cX0_lines 63 = .ok (.goto 18, 3) := by decide +kernel
theorem dX0_lines_66 : decode cX0_lines 66 = .ok (.aload_n 0, 1) := by decide +kernel
theorem dX0_lines_67 : decode cX0_lines 67 = .ok (.getfield 11, 3) := by decide +kernel
theorem dX0_lines_70 : decode cX0_lines 70 = .ok (.iload 5, 2) := by decide +kernel
theorem dX0_lines_72 : decode cX0_lines 72 = .ok (.bipush 16, 2) := by decide +kernel
theorem dX0_lines_74 : decode cX0_lines 74 = .ok (.imul, 1) := by decide +kernel
theorem dX0_lines_75 : decode cX0_lines 75 = .ok (.iload 6, 2) := by decide +kernel
theorem dX0_lines_77 : decode cX0_lines 77 = .ok (.iadd, 1) := by decide +kernel
theorem dX0_lines_78 : decode cX0_lines 78 = .ok (.invokestatic 51, 3) := by decide +kernel
theorem dX0_lines_81 : decode cX0_lines 81 = .ok (.istore 6, 2) := by decide +kernel
theorem dX0_lines_83 : decode cX0_lines 83 = .ok (.iinc 7 1, 3) := by decide +kernel
theorem dX0_lines_86 : decode cX0_lines 86 = .ok (.goto (-54), 3) := by decide +kernel
theorem dX0_lines_89 : decode cX0_lines 89 = .ok (.iinc 5 2, 3) := by decide +kernel
theorem dX0_lines_92 : decode cX0_lines 92 = .ok (.goto (-86), 3) := by decide +kernel
theorem dX0_lines_95 : decode cX0_lines 95 = .ok (.iload 4, 2) := by decide +kernel
theorem dX0_lines_97 : decode cX0_lines 97 = .ok (.ireturn, 1) := by decide +kernel
theorem dX1_init_0 : decode cX1_init 0 = .ok (.aload_n 0, 1) := by decide +kernel
theorem dX1_init_1 : decode cX1_init 1 = .ok (.invokespecial 3, 3) := by decide +kernel
theorem dX1_init_4 : decode cX1_init 4 = .ok (.aload_n 0, 1) := by decide +kernel
theorem dX1_init_5 : decode cX1_init 5 = .ok (.new 9, 3) := by decide +kernel
theorem dX1_init_8 : decode cX1_init 8 = .ok (.dup, 1) := by decide +kernel
theorem dX1_init_9 : decode cX1_init 9 = .ok (.bipush 16, 2) := by decide +kernel
theorem dX1_init_11 : decode cX1_init 11 = .ok (.invokespecial 11, 3) := by decide +kernel
theorem dX1_init_14 : decode cX1_init 14 = .ok (.putfield 14, 3) := by decide +kernel
theorem dX1_init_17 : decode cX1_init 17 = .ok (.aload_n 0, 1) := by decide +kernel
theorem dX1_init_18 : decode cX1_init 18 = .ok (.iconst 0, 1) := by decide +kernel
theorem dX1_init_19 : decode cX1_init 19 = .ok (.putfield 20, 3) := by decide +kernel
theorem dX1_init_22 : decode cX1_init 22 = .ok (.aload_n 0, 1) := by decide +kernel
theorem dX1_init_23 : decode cX1_init 23 = .ok (.iconst 0, 1) := by decide +kernel
theorem dX1_init_24 : decode cX1_init 24 = .ok (.putfield 24, 3) := by decide +kernel
theorem dX1_init_27 : decode cX1_init 27 = .ok (.return_, 1) := by decide +kernel
theorem dX1_clear_0 : decode cX1_clear 0 = .ok (.aload_n 0, 1) := by decide +kernel
theorem dX1_clear_1 : decode cX1_clear 1 = .ok (.iconst 0, 1) := by decide +kernel
theorem dX1_clear_2 : decode cX1_clear 2 = .ok (.putfield 20, 3) := by decide +kernel
theorem dX1_clear_5 : decode cX1_clear 5 = .ok (.aload_n 0, 1) := by decide +kernel
theorem dX1_clear_6 : decode cX1_clear 6 = .ok (.iconst 0, 1) := by decide +kernel
theorem dX1_clear_7 : decode cX1_clear 7 = .ok (.putfield 24, 3) := by decide +kernel
theorem dX1_clear_10 : decode cX1_clear 10 = .ok (.return_, 1) := by decide +kernel
theorem dX1_add_0 : decode cX1_add 0 = .ok (.aload_n 0, 1) := by decide +kernel
theorem dX1_add_1 : decode cX1_add 1 = .ok (.getfield 14, 3) := by decide +kernel
theorem dX1_add_4 : decode cX1_add 4 = .ok (.aload_n 0, 1) := by decide +kernel
theorem dX1_add_5 : decode cX1_add 5 = .ok (.getfield 20, 3) := by decide +kernel
theorem dX1_add_8 : decode cX1_add 8 = .ok (.aload_n 0, 1) := by decide +kernel
theorem dX1_add_9 : decode cX1_add 9 = .ok (.getfield 24, 3) := by decide +kernel
theorem dX1_add_12 : decode cX1_add 12 = .ok (.iadd, 1) := by decide +kernel
theorem dX1_add_13 : decode cX1_add 13 = .ok (.bipush 16, 2) := by decide +kernel
theorem dX1_add_15 : decode cX1_add 15 = .ok (.irem, 1) := by decide +kernel
theorem dX1_add_16 : decode cX1_add 16 = .ok (.aload_n 1, 1) := by decide +kernel
theorem dX1_add_17 : decode cX1_add 17 = .ok (.invokevirtual 27, 3) := by decide +kernel
theorem dX1_add_20 : decode cX1_add 20 = .ok (.aload_n 0, 1) := by decide +kernel
theorem dX1_add_21 : decode cX1_add 21 = .ok (.getfield 24, 3) := by decide +kernel
theorem dX1_add_24 : decode cX1_add 24 = .ok (.bipush 16, 2) := by decide +kernel
theorem dX1_add_26 : decode cX1_add 26 = .ok (.if_icmp .ge 16, 3) := by decide +kernel
theorem dX1_add_29 : decode cX1_add 29 = .ok (.aload_n 0, 1) := by decide +kernel
theorem dX1_add_30 : decode cX1_add 30 = .ok (.dup, 1) := by decide +kernel
theorem dX1_add_31 : decode cX1_add 31 = .ok (.getfield 24, 3) := by decide +kernel
theorem dX1_add_34 : decode cX1_add 34 = .ok (.iconst 1, 1) := by decide +kernel
theorem dX1_add_35 : decode cX1_add 35 = .ok (.iadd, 1) := by decide +kernel
theorem dX1_add_36 : decode cX1_add 36 = .ok (.putfield 24, 3) := by decide +kernel
theorem dX1_add_39 : decode cX1_add 39 = .ok (.goto 16, 3) := by decide +kernel
theorem dX1_add_42 : decode cX1_add 42 = .ok (.aload_n 0, 1) := by decide +kernel
theorem dX1_add_43 : decode cX1_add 43 = .ok (.aload_n 0, 1) := by decide +kernel
theorem dX1_add_44 : decode cX1_add 44 = .ok (.getfield 20, 3) := by decide +kernel
theorem dX1_add_47 : decode cX1_add 47 = .ok (.iconst 1, 1) := by decide +kernel
theorem dX1_add_48 : decode cX1_add 48 = .ok (.iadd, 1) := by decide +kernel
theorem dX1_add_49 : decode cX1_add 49 = .ok (.bipush 16, 2) := by decide +kernel
theorem dX1_add_51 : decode cX1_add 51 = .ok (.irem, 1) := by decide +kernel
theorem dX1_add_52 : decode cX1_add 52 = .ok (.putfield 20, 3) := by decide +kernel
theorem dX1_add_55 : decode cX1_add 55 = .ok (.return_, 1) := by decide +kernel
theorem dX1_takeLast_0 : decode cX1_takeLast 0 = .ok (.aload_n 0, 1) := by decide +kernel
theorem dX1_takeLast_1 : decode cX1_takeLast 1 = .ok (.getfield 24, 3) := by decide +kernel
theorem dX1_takeLast_4 : decode cX1_takeLast 4 = .ok (.ifCond .le 33, 3) := by decide +kernel
theorem dX1_takeLast_7 : decode cX1_takeLast 7 = .ok (.aload_n 0, 1) := by decide +kernel
theorem dX1_takeLast_8 : decode cX1_takeLast 8 = .ok (.dup, 1) := by decide +kernel
theorem dX1_takeLast_9 : decode cX1_takeLast 9 = .ok (.getfield 24, 3) := by decide +kernel
theorem dX1_takeLast_12 : decode cX1_takeLast 12 = .ok (.iconst 1, 1) := by decide +kernel
theorem dX1_takeLast_13 : decode cX1_takeLast 13 = .ok (.isub, 1) := by decide +kernel
theorem dX1_takeLast_14 : decode cX1_takeLast 14 = .ok (.putfield 24, 3) := by decide +kernel
theorem dX1_takeLast_17 : decode cX1_takeLast 17 = .ok (.aload_n 0, 1) := by decide +kernel
theorem dX1_takeLast_18 : decode cX1_takeLast 18 = .ok (.getfield 14, 3) := by decide +kernel
theorem dX1_takeLast_21 : decode cX1_takeLast 21 = .ok (.aload_n 0, 1) := by decide +kernel
theorem dX1_takeLast_22 : decode cX1_takeLast 22 = .ok (.getfield 20, 3) := by decide +kernel
theorem dX1_takeLast_25 : decode cX1_takeLast 25 = .ok (.aload_n 0, 1) := by decide +kernel
theorem dX1_takeLast_26 : decode cX1_takeLast 26 = .ok (.getfield 24, 3) := by decide +kernel
theorem dX1_takeLast_29 : decode cX1_takeLast 29 = .ok (.iadd, 1) := by decide +kernel
theorem dX1_takeLast_30 : decode cX1_takeLast 30 = .ok (.bipush 16, 2) := by decide +kernel
theorem dX1_takeLast_32 : decode cX1_takeLast 32 = .ok (.irem, 1) := by decide +kernel
theorem dX1_takeLast_33 : decode cX1_takeLast 33 = .ok (.aload_n 1, 1) := by decide +kernel
theorem dX1_takeLast_34 : decode cX1_takeLast 34 = .ok (.invokevirtual 31, 3) := by decide +kernel
theorem dX1_takeLast_37 : decode cX1_takeLast 37 = .ok (.return_, 1) := by decide +kernel
theorem dX2_init_0 : decode cX2_init 0 = .ok (.aload_n 0, 1) := by decide +kernel
theorem dX2_init_1 : decode cX2_init 1 = .ok (.invokespecial 3, 3) := by decide +kernel
theorem dX2_init_4 : decode cX2_init 4 = .ok (.aload_n 0, 1) := by decide +kernel
theorem dX2_init_5 : decode cX2_init 5 = .ok (.bipush 64, 2) := by decide +kernel
theorem dX2_init_7 : decode cX2_init 7 = .ok (.newarray .int, 2) := by decide +kernel
theorem dX2_init_9 : decode cX2_init 9 = .ok (.putfield 9, 3) := by decide +kernel
theorem dX2_init_12 : decode cX2_init 12 = .ok (.aload_n 0, 1) := by decide +kernel
theorem dX2_init_13 : decode cX2_init 13 = .ok (.iconst 0, 1) := by decide +kernel
theorem dX2_init_14 : decode cX2_init 14 = .ok (.putfield 15, 3) := by decide +kernel
theorem dX2_init_17 : decode cX2_init 17 = .ok (.aload_n 0, 1) := by decide +kernel
theorem dX2_init_18 : decode cX2_init 18 = .ok (.lconst 0, 1) := by decide +kernel
theorem dX2_init_19 : decode cX2_init 19 = .ok (.putfield 19, 3) := by decide +kernel
theorem dX2_init_22 : decode cX2_init 22 = .ok (.aload_n 0, 1) := by decide +kernel
theorem dX2_init_23 : decode cX2_init 23 = .ok (.lconst 0, 1) := by decide +kernel
theorem dX2_init_24 : decode cX2_init 24 = .ok (.putfield 23, 3) := by decide +kernel
theorem dX2_init_27 : decode cX2_init 27 = .ok (.aload_n 0, 1) := by decide +kernel
theorem dX2_init_28 : decode cX2_init 28 = .ok (.iconst 0, 1) := by decide +kernel
theorem dX2_init_29 : decode cX2_init 29 = .ok (.putfield 26, 3) := by decide +kernel
theorem dX2_init_32 : decode cX2_init 32 = .ok (.aload_n 0, 1) := by decide +kernel
theorem dX2_init_33 : decode cX2_init 33 = .ok (.iconst 0, 1) := by decide +kernel
theorem dX2_init_34 : decode cX2_init 34 = .ok (.putfield 29, 3) := by decide +kernel
theorem dX2_init_37 : decode cX2_init 37 = .ok (.aload_n 0, 1) := by decide +kernel
theorem dX2_init_38 : decode cX2_init 38 = .ok (.iconst 0, 1) := by decide +kernel
theorem dX2_init_39 : decode cX2_init 39 = .ok (.putfield 32, 3) := by decide +kernel
theorem dX2_init_42 : decode cX2_init 42 = .ok (.aload_n 0, 1) := by decide +kernel
theorem dX2_init_43 : decode cX2_init 43 = .ok (.iconst 0, 1) := by decide +kernel
theorem dX2_init_44 : decode cX2_init 44 = .ok (.putfield 35, 3) := by decide +kernel
theorem dX2_init_47 : decode cX2_init 47 = .ok (.aload_n 0, 1) := by decide +kernel
theorem dX2_init_48 : decode cX2_init 48 = .ok (.iconst 0, 1) := by decide +kernel
theorem dX2_init_49 : decode cX2_init 49 = .ok (.putfield 38, 3) := by decide +kernel
theorem dX2_init_52 : decode cX2_init 52 = .ok (.aload_n 0, 1) := by decide +kernel
theorem dX2_init_53 : decode cX2_init 53 = .ok (.bipush (-9), 2) := by decide +kernel
theorem dX2_init_55 : decode cX2_init 55 = .ok (.putfield 41, 3) := by decide +kernel
theorem dX2_init_58 : decode cX2_init 58 = .ok (.aload_n 0, 1) := by decide +kernel
theorem dX2_init_59 : decode cX2_init 59 = .ok (.aload_n 1, 1) := by decide +kernel
theorem dX2_init_60 : decode cX2_init 60 = .ok (.putfield 44, 3) := by decide +kernel
theorem dX2_init_63 : decode cX2_init 63 = .ok (.return_, 1) := by decide +kernel
theorem dX2_clear_0 : decode cX2_clear 0 = .ok (.aload_n 0, 1) := by decide +kernel
theorem dX2_clear_1 : decode cX2_clear 1 = .ok (.lconst 0, 1) := by decide +kernel
theorem dX2_clear_2 : decode cX2_clear 2 = .ok (.lconst 0, 1) := by decide +kernel
theorem dX2_clear_3 : decode cX2_clear 3 = .ok (.iconst 0, 1) := by decide +kernel
theorem dX2_clear_4 : decode cX2_clear 4 = .ok (.bipush (-9), 2) := by decide +kernel
theorem dX2_clear_6 : decode cX2_clear 6 = .ok (.invokevirtual 48, 3) := by decide +kernel
theorem dX2_clear_9 : decode cX2_clear 9 = .ok (.return_, 1) := by decide +kernel
theorem dX2_set_0 : decode cX2_set 0 = .ok (.iconst 0, 1) := by decide +kernel
theorem dX2_set_1 : decode cX2_set 1 = .ok (.istore 7, 2) := by decide +kernel
theorem dX2_set_3 : decode cX2_set 3 = .ok (.iload 7, 2) := by decide +kernel
theorem dX2_set_5 : decode cX2_set 5 = .ok (.bipush 16, 2) := by decide +kernel
theorem dX2_set_7 : decode cX2_set 7 = .ok (.if_icmp .ge 21, 3) := by decide +kernel
theorem dX2_set_10 : decode cX2_set 10 = .ok (.aload_n 0, 1) := by decide +kernel
theorem dX2_set_11 : decode cX2_set 11 = .ok (.iload 7, 2) := by decide +kernel
theorem dX2_set_13 : decode cX2_set 13 = .ok (.lload_n 1, 1) := by decide +kernel
theorem dX2_set_14 : decode cX2_set 14 = .ok (.iload 7, 2) := by decide +kernel
theorem dX2_set_16 : decode cX2_set 16 = .ok (.invokestatic 52, 3) := by decide +kernel
theorem dX2_set_19 : decode cX2_set 19 = .ok (.invokevirtual 56, 3) := by decide +kernel
theorem dX2_set_22 : decode cX2_set 22 = .ok (.iinc 7 1, 3) := by decide +kernel
theorem dX2_set_25 : decode cX2_set 25 = .ok (.goto (-22), 3) := by decide +kernel
theorem dX2_set_28 : decode cX2_set 28 = .ok (.aload_n 0, 1) := by decide +kernel
theorem dX2_set_29 : decode cX2_set 29 = .ok (.lload_n 3, 1) := by decide +kernel
theorem dX2_set_30 : decode cX2_set 30 = .ok (.putfield 23, 3) := by decide +kernel
theorem dX2_set_33 : decode cX2_set 33 = .ok (.aload_n 0, 1) := by decide +kernel
theorem dX2_set_34 : decode cX2_set 34 = .ok (.iload 5, 2) := by decide +kernel
theorem dX2_set_36 : decode cX2_set 36 = .ok (.putfield 38, 3) := by decide +kernel
theorem dX2_set_39 : decode cX2_set 39 = .ok (.aload_n 0, 1) := by decide +kernel
theorem dX2_set_40 : decode cX2_set 40 = .ok (.iload 6, 2) := by decide +kernel
theorem dX2_set_42 : decode cX2_set 42 = .ok (.putfield 41, 3) := by decide +kernel
theorem dX2_set_45 : decode cX2_set 45 = .ok (.return_, 1) := by decide +kernel
theorem dX2_copy_0 : decode cX2_copy 0 = .ok (.aload_n 0, 1) := by decide +kernel
theorem dX2_copy_1 : decode cX2_copy 1 = .ok (.aload_n 1, 1) := by decide +kernel
theorem dX2_copy_2 : decode cX2_copy 2 = .ok (.getfield 19, 3) := by decide +kernel
theorem dX2_copy_5 : decode cX2_copy 5 = .ok (.putfield 19, 3) := by decide +kernel
theorem dX2_copy_8 : decode cX2_copy 8 = .ok (.aload_n 0, 1) := by decide +kernel
theorem dX2_copy_9 : decode cX2_copy 9 = .ok (.aload_n 1, 1) := by decide +kernel
theorem dX2_copy_10 : decode cX2_copy 10 = .ok (.getfield 23, 3) := by decide +kernel
theorem dX2_copy_13 : decode cX2_copy 13 = .ok (.putfield 23, 3) := by decide +kernel
theorem dX2_copy_16 : decode cX2_copy 16 = .ok (.aload_n 0, 1) := by decide +kernel
theorem dX2_copy_17 : decode cX2_copy 17 = .ok (.aload_n 1, 1) := by decide +kernel
theorem dX2_copy_18 : decode cX2_copy 18 = .ok (.getfield 26, 3) := by decide +kernel
theorem dX2_copy_21 : decode cX2_copy 21 = .ok (.putfield 26, 3) := by decide +kernel
theorem dX2_copy_24 : decode cX2_copy 24 = .ok (.aload_n 0, 1) := by decide +kernel
theorem dX2_copy_25 : decode cX2_copy 25 = .ok (.aload_n 1, 1) := by decide +kernel
theorem dX2_copy_26 : decode cX2_copy 26 = .ok (.getfield 29, 3) := by decide +kernel
theorem dX2_copy_29 : decode cX2_copy 29 = .ok (.putfield 29, 3) := by decide +kernel
theorem dX2_copy_32 : decode cX2_copy 32 = .ok (.aload_n 0, 1) := by decide +kernel
theorem dX2_copy_33 : decode cX2_copy 33 = .ok (.aload_n 1, 1) := by decide +kernel
theorem dX2_copy_34 : decode cX2_copy 34 = .ok (.getfield 32, 3) := by decide +kernel
theorem dX2_copy_37 : decode cX2_copy 37 = .ok (.putfield 32, 3) := by decide +kernel
theorem dX2_copy_40 : decode cX2_copy 40 = .ok (.aload_n 0, 1) := by decide +kernel
theorem dX2_copy_41 : decode cX2_copy 41 = .ok (.aload_n 1, 1) := by decide +kernel
theorem dX2_copy_42 : decode cX2_copy 42 = .ok (.getfield 35, 3) := by decide +kernel
theorem dX2_copy_45 : decode cX2_copy 45 = .ok (.putfield 35, 3) := by decide +kernel
theorem dX2_copy_48 : decode cX2_copy 48 = .ok (.aload_n 0, 1) := by decide +kernel
theorem dX2_copy_49 : decode cX2_copy 49 = .ok (.aload_n 1, 1) := by decide +kernel
theorem dX2_copy_50 : decode cX2_copy 50 = .ok (.getfield 38, 3) := by decide +kernel
theorem dX2_copy_53 : decode cX2_copy 53 = .ok (.putfield 38, 3) := by decide +kernel
theorem dX2_copy_56 : decode cX2_copy 56 = .ok (.aload_n 0, 1) := by decide +kernel
theorem dX2_copy_57 : decode cX2_copy 57 = .ok (.aload_n 1, 1) := by decide +kernel
theorem dX2_copy_58 : decode cX2_copy 58 = .ok (.getfield 41, 3) := by decide +kernel
theorem dX2_copy_61 : decode cX2_copy 61 = .ok (.putfield 41, 3) := by decide +kernel
theorem dX2_copy_64 : decode cX2_copy 64 = .ok (.return_, 1) := by decide +kernel
theorem dX2_put_0 : decode cX2_put 0 = .ok (.iconst 1, 1) := by decide +kernel
theorem dX2_put_1 : decode cX2_put 1 = .ok (.iload_n 1, 1) := by decide +kernel
theorem dX2_put_2 : decode cX2_put 2 = .ok (.ishl, 1) := by decide +kernel
theorem dX2_put_3 : decode cX2_put 3 = .ok (.istore_n 3, 1) := by decide +kernel
theorem dX2_put_4 : decode cX2_put 4 = .ok (.iload_n 2, 1) := by decide +kernel
theorem dX2_put_5 : decode cX2_put 5 = .ok (.invokestatic 60, 3) := by decide +kernel
theorem dX2_put_8 : decode cX2_put 8 = .ok (.istore 4, 2) := by decide +kernel
theorem dX2_put_10 : decode cX2_put 10 = .ok (.aload_n 0, 1) := by decide +kernel
theorem dX2_put_11 : decode cX2_put 11 = .ok (.aload_n 0, 1) := by decide +kernel
theorem dX2_put_12 : decode cX2_put 12 = .ok (.getfield 19, 3) := by decide +kernel
theorem dX2_put_15 : decode cX2_put 15 = .ok (.ldc2_w 64, 3) := by decide +kernel
theorem dX2_put_18 : decode cX2_put 18 = .ok (.iconst 4, 1) := by decide +kernel
theorem dX2_put_19 : decode cX2_put 19 = .ok (.iload_n 1, 1) := by decide +kernel
theorem dX2_put_20 : decode cX2_put 20 = .ok (.imul, 1) := by decide +kernel
theorem dX2_put_21 : decode cX2_put 21 = .ok (.lshl, 1) := by decide +kernel
theorem dX2_put_22 : decode cX2_put 22 = .ok (.ldc2_w 66, 3) := by decide +kernel
theorem dX2_put_25 : decode cX2_put 25 = .ok (.lxor, 1) := by decide +kernel
theorem dX2_put_26 : decode cX2_put 26 = .ok (.land, 1) := by decide +kernel
theorem dX2_put_27 : decode cX2_put 27 = .ok (.iload_n 2, 1) := by decide +kernel
theorem dX2_put_28 : decode cX2_put 28 = .ok (.i2l, 1) := by decide +kernel
theorem dX2_put_29 : decode cX2_put 29 = .ok (.iconst 4, 1) := by decide +kernel
theorem dX2_put_30 : decode cX2_put 30 = .ok (.iload_n 1, 1) := by decide +kernel
theorem dX2_put_31 : decode cX2_put 31 = .ok (.imul, 1) := by decide +kernel
theorem dX2_put_32 : decode cX2_put 32 = .ok (.lshl, 1) := by decide +kernel
theorem dX2_put_33 : decode cX2_put 33 = .ok (.lor, 1) := by decide +kernel
theorem dX2_put_34 : decode cX2_put 34 = .ok (.putfield 19, 3) := by decide +kernel
theorem dX2_put_37 : decode cX2_put 37 = .ok (.aload_n 0, 1) := by decide +kernel
theorem dX2_put_38 : decode cX2_put 38 = .ok (.aload_n 0, 1) := by decide +kernel
theorem dX2_put_39 : decode cX2_put 39 = .ok (.getfield 26, 3) := by decide +kernel
theorem dX2_put_42 : decode cX2_put 42 = .ok (.iload_n 3, 1) := by decide +kernel
theorem dX2_put_43 : decode cX2_put 43 = .ok (.iload 4, 2) := by decide +kernel
theorem dX2_put_45 : decode cX2_put 45 = .ok (.ifCond .ne 7, 3) := by decide +kernel
theorem dX2_put_48 : decode cX2_put 48 = .ok (.iconst 1, 1) := by decide +kernel
theorem dX2_put_49 : decode cX2_put 49 = .ok (.goto 4, 3) := by decide +kernel
theorem dX2_put_52 : decode cX2_put 52 = .ok (.iconst 0, 1) := by decide +kernel
theorem dX2_put_53 : decode cX2_put 53 = .ok (.invokestatic 68, 3) := by decide +kernel
theorem dX2_put_56 : decode cX2_put 56 = .ok (.putfield 26, 3) := by decide +kernel
theorem dX2_put_59 : decode cX2_put 59 = .ok (.aload_n 0, 1) := by decide +kernel
theorem dX2_put_60 : decode cX2_put 60 = .ok (.aload_n 0, 1) := by decide +kernel
theorem dX2_put_61 : decode cX2_put 61 = .ok (.getfield 29, 3) := by decide +kernel
theorem dX2_put_64 : decode cX2_put 64 = .ok (.iload_n 3, 1) := by decide +kernel
theorem dX2_put_65 : decode cX2_put 65 = .ok (.iload 4, 2) := by decide +kernel
theorem dX2_put_67 : decode cX2_put 67 = .ok (.iconst 1, 1) := by decide +kernel
theorem dX2_put_68 : decode cX2_put 68 = .ok (.if_icmp .ne 7, 3) := by decide +kernel
theorem dX2_put_71 : decode cX2_put 71 = .ok (.iconst 1, 1) := by decide +kernel
theorem dX2_put_72 : decode cX2_put 72 = .ok (.goto 4, 3) := by decide +kernel
theorem dX2_put_75 : decode cX2_put 75 = .ok (.iconst 0, 1) := by decide +kernel
theorem dX2_put_76 : decode cX2_put 76 = .ok (.invokestatic 68, 3) := by decide +kernel
theorem dX2_put_79 : decode cX2_put 79 = .ok (.putfield 29, 3) := by decide +kernel
theorem dX2_put_82 : decode cX2_put 82 = .ok (.aload_n 0, 1) := by decide +kernel
theorem dX2_put_83 : decode cX2_put 83 = .ok (.aload_n 0, 1) := by decide +kernel
theorem dX2_put_84 : decode cX2_put 84 = .ok (.getfield 32, 3) := by decide +kernel
theorem dX2_put_87 : decode cX2_put 87 = .ok (.iload_n 3, 1) := by decide +kernel
theorem dX2_put_88 : decode cX2_put 88 = .ok (.iload_n 2, 1) := by decide +kernel
theorem dX2_put_89 : decode cX2_put 89 = .ok (.iconst 1, 1) := by decide +kernel
theorem dX2_put_90 : decode cX2_put 90 = .ok (.if_icmp .ne 7, 3) := by decide +kernel
theorem dX2_put_93 : decode cX2_put 93 = .ok (.iconst 1, 1) := by decide +kernel
theorem dX2_put_94 : decode cX2_put 94 = .ok (.goto 4, 3) := by decide +kernel
theorem dX2_put_97 : decode cX2_put 97 = .ok (.iconst 0, 1) := by decide +kernel
theorem dX2_put_98 : decode cX2_put 98 = .ok (.invokestatic 68, 3) := by decide +kernel
theorem dX2_put_101 : decode cX2_put 101 = .ok (.putfield 32, 3) := by decide +kernel
theorem dX2_put_104 : decode cX2_put 104 = .ok (.aload_n 0, 1) := by decide +kernel
theorem dX2_put_105 : decode cX2_put 105 = .ok (.aload_n 0, 1) := by decide +kernel
theorem dX2_put_106 : decode cX2_put 106 = .ok (.getfield 35, 3) := by decide +kernel
theorem dX2_put_109 : decode cX2_put 109 = .ok (.iload_n 3, 1) := by decide +kernel
theorem dX2_put_110 : decode cX2_put 110 = .ok (.iload_n 2, 1) := by decide +kernel
theorem dX2_put_111 : decode cX2_put 111 = .ok (.invokestatic 72, 3) := by decide +kernel
theorem dX2_put_114 : decode cX2_put 114 = .ok (.ifCond .ne 7, 3) := by decide +kernel
theorem dX2_put_117 : decode cX2_put 117 = .ok (.iconst 1, 1) := by decide +kernel
theorem dX2_put_118 : decode cX2_put 118 = .ok (.goto 4, 3) := by decide +kernel
theorem dX2_put_121 : decode cX2_put 121 = .ok (.iconst 0, 1) := by decide +kernel
theorem dX2_put_122 : decode cX2_put 122 = .ok (.invokestatic 68, 3) := by decide +kernel
theorem dX2_put_125 : decode cX2_put 125 = .ok (.putfield 35, 3) := by decide +kernel
theorem dX2_put_128 : decode cX2_put 128 = .ok (.return_, 1) := by decide +kernel
theorem dX2_sign_0 : decode cX2_sign 0 = .ok (.aload_n 0, 1) := by decide +kernel
theorem dX2_sign_1 : decode cX2_sign 1 = .ok (.getfield 19, 3) := by decide +kernel
theorem dX2_sign_4 : decode cX2_sign 4 = .ok (.iload_n 1, 1) := by decide +kernel
theorem dX2_sign_5 : decode cX2_sign 5 = .ok (.invokestatic 52, 3) := by decide +kernel
theorem dX2_sign_8 : decode cX2_sign 8 = .ok (.ireturn, 1) := by decide +kernel
theorem dX2_lying_0 : decode cX2_lying 0 = .ok (.aload_n 0, 1) := by decide +kernel
theorem dX2_lying_1 : decode cX2_lying 1 = .ok (.getfield 23, 3) := by decide +kernel
theorem dX2_lying_4 : decode cX2_lying 4 = .ok (.iload_n 1, 1) := by decide +kernel
theorem dX2_lying_5 : decode cX2_lying 5 = .ok (.invokestatic 52, 3) := by decide +kernel
theorem dX2_lying_8 : decode cX2_lying 8 = .ok (.ireturn, 1) := by decide +kernel
theorem dX2_men_0 : decode cX2_men 0 = .ok (.iload_n 1, 1) := by decide +kernel
theorem dX2_men_1 : decode cX2_men 1 = .ok (.ifCond .ne 10, 3) := by decide +kernel
theorem dX2_men_4 : decode cX2_men 4 = .ok (.aload_n 0, 1) := by decide +kernel
theorem dX2_men_5 : decode cX2_men 5 = .ok (.getfield 26, 3) := by decide +kernel
theorem dX2_men_8 : decode cX2_men 8 = .ok (.goto 7, 3) := by decide +kernel
theorem dX2_men_11 : decode cX2_men 11 = .ok (.aload_n 0, 1) := by decide +kernel
theorem dX2_men_12 : decode cX2_men 12 = .ok (.getfield 29, 3) := by decide +kernel
theorem dX2_men_15 : decode cX2_men 15 = .ok (.ireturn, 1) := by decide +kernel
theorem dX2_menCount_0 : decode cX2_menCount 0 = .ok (.aload_n 0, 1) := by decide +kernel
theorem dX2_menCount_1 : decode cX2_menCount 1 = .ok (.getfield 26, 3) := by decide +kernel
theorem dX2_menCount_4 : decode cX2_menCount 4 = .ok (.aload_n 0, 1) := by decide +kernel
theorem dX2_menCount_5 : decode cX2_menCount 5 = .ok (.getfield 29, 3) := by decide +kernel
theorem dX2_menCount_8 : decode cX2_menCount 8 = .ok (.ior, 1) := by decide +kernel
theorem dX2_menCount_9 : decode cX2_menCount 9 = .ok (.invokestatic 75, 3) := by decide +kernel
theorem dX2_menCount_12 : decode cX2_menCount 12 = .ok (.ireturn, 1) := by decide +kernel
theorem dX2_full_0 : decode cX2_full 0 = .ok (.aload_n 0, 1) := by decide +kernel
theorem dX2_full_1 : decode cX2_full 1 = .ok (.getfield 26, 3) := by decide +kernel
theorem dX2_full_4 : decode cX2_full 4 = .ok (.aload_n 0, 1) := by decide +kernel
theorem dX2_full_5 : decode cX2_full 5 = .ok (.getfield 29, 3) := by decide +kernel
theorem dX2_full_8 : decode cX2_full 8 = .ok (.ior, 1) := by decide +kernel
theorem dX2_full_9 : decode cX2_full 9 = .ok (.aload_n 0, 1) := by decide +kernel
theorem dX2_full_10 : decode cX2_full 10 = .ok (.getfield 32, 3) := by decide +kernel
theorem dX2_full_13 : decode cX2_full 13 = .ok (.ior, 1) := by decide +kernel
theorem dX2_full_14 : decode cX2_full 14 = .ok (.ireturn, 1) := by decide +kernel
theorem dX2_reach_0 : decode cX2_reach 0 = .ok (.aload_n 0, 1) := by decide +kernel
theorem dX2_reach_1 : decode cX2_reach 1 = .ok (.iload_n 2, 1) := by decide +kernel
theorem dX2_reach_2 : decode cX2_reach 2 = .ok (.invokevirtual 80, 3) := by decide +kernel
theorem dX2_reach_5 : decode cX2_reach 5 = .ok (.istore_n 3, 1) := by decide +kernel
theorem dX2_reach_6 : decode cX2_reach 6 = .ok (.iload_n 3, 1) := by decide +kernel
theorem dX2_reach_7 : decode cX2_reach 7 = .ok (.invokestatic 60, 3) := by decide +kernel
theorem dX2_reach_10 : decode cX2_reach 10 = .ok (.istore 4, 2) := by decide +kernel
theorem dX2_reach_12 : decode cX2_reach 12 = .ok (.iload 4, 2) := by decide +kernel
theorem dX2_reach_14 : decode cX2_reach 14 = .ok (.bipush (-9), 2) := by decide +kernel
theorem dX2_reach_16 : decode cX2_reach 16 = .ok (.if_icmp .ne 5, 3) := by decide +kernel
theorem dX2_reach_19 : decode cX2_reach 19 = .ok (.iconst 0, 1) := by decide +kernel
theorem dX2_reach_20 : decode cX2_reach 20 = .ok (.ireturn, 1) := by decide +kernel
theorem dX2_reach_21 : decode cX2_reach 21 = .ok (.aload_n 0, 1) := by decide +kernel
theorem dX2_reach_22 : decode cX2_reach 22 = .ok (.invokevirtual 83, 3) := by decide +kernel
theorem dX2_reach_25 : decode cX2_reach 25 = .ok (.istore 5, 2) := by decide +kernel
theorem dX2_reach_27 : decode cX2_reach 27 = .ok (.aload_n 1, 1) := by decide +kernel
theorem dX2_reach_28 : decode cX2_reach 28 = .ok (.iload_n 3, 1) := by decide +kernel
theorem dX2_reach_29 : decode cX2_reach 29 = .ok (.iload_n 2, 1) := by decide +kernel
theorem dX2_reach_30 : decode cX2_reach 30 = .ok (.iload 5, 2) := by decide +kernel
theorem dX2_reach_32 : decode cX2_reach 32 = .ok (.invokevirtual 87, 3) := by decide +kernel
theorem dX2_reach_35 : decode cX2_reach 35 = .ok (.istore 6, 2) := by decide +kernel
theorem dX2_reach_37 : decode cX2_reach 37 = .ok (.aload_n 1, 1) := by decide +kernel
theorem dX2_reach_38 : decode cX2_reach 38 = .ok (.iload_n 3, 1) := by decide +kernel
theorem dX2_reach_39 : decode cX2_reach 39 = .ok (.iload_n 2, 1) := by decide +kernel
theorem dX2_reach_40 : decode cX2_reach 40 = .ok (.iload 6, 2) := by decide +kernel
theorem dX2_reach_42 : decode cX2_reach 42 = .ok (.invokevirtual 93, 3) := by decide +kernel
theorem dX2_reach_45 : decode cX2_reach 45 = .ok (.iload 5, 2) := by decide +kernel
theorem dX2_reach_47 : decode cX2_reach 47 = .ok (.iconst (-1), 1) := by decide +kernel
theorem dX2_reach_48 : decode cX2_reach 48 = .ok (.ixor, 1) := by decide +kernel
theorem dX2_reach_49 : decode cX2_reach 49 = .ok (.iand, 1) := by decide +kernel
theorem dX2_reach_50 : decode cX2_reach 50 = .ok (.iload 6, 2) := by decide +kernel
theorem dX2_reach_52 : decode cX2_reach 52 = .ok (.aload_n 0, 1) := by decide +kernel
theorem dX2_reach_53 : decode cX2_reach 53 = .ok (.iconst 1, 1) := by decide +kernel
theorem dX2_reach_54 : decode cX2_reach 54 = .ok (.iload 4, 2) := by decide +kernel
theorem dX2_reach_56 : decode cX2_reach 56 = .ok (.isub, 1) := by decide +kernel
theorem dX2_reach_57 : decode cX2_reach 57 = .ok (.invokevirtual 96, 3) := by decide +kernel
theorem dX2_reach_60 : decode cX2_reach 60 = .ok (.iand, 1) := by decide +kernel
theorem dX2_reach_61 : decode cX2_reach 61 = .ok (.ior, 1) := by decide +kernel
theorem dX2_reach_62 : decode cX2_reach 62 = .ok (.ireturn, 1) := by decide +kernel
theorem dX2_list_0 : decode cX2_list 0 = .ok (.aload_n 0, 1) := by decide +kernel
theorem dX2_list_1 : decode cX2_list 1 = .ok (.iconst 0, 1) := by decide +kernel
theorem dX2_list_2 : decode cX2_list 2 = .ok (.putfield 15, 3) := by decide +kernel
theorem dX2_list_5 : decode cX2_list 5 = .ok (.aload_n 0, 1) := by decide +kernel
theorem dX2_list_6 : decode cX2_list 6 = .ok (.getfield 41, 3) := by decide +kernel
theorem dX2_list_9 : decode cX2_list 9 = .ok (.bipush (-9), 2) := by decide +kernel
theorem dX2_list_11 : decode cX2_list 11 = .ok (.if_icmp .eq 5, 3) := by decide +kernel
theorem dX2_list_14 : decode cX2_list 14 = .ok (.iconst 0, 1) := by decide +kernel
theorem dX2_list_15 : decode cX2_list 15 = .ok (.ireturn, 1) := by decide +kernel
theorem dX2_list_16 : decode cX2_list 16 = .ok (.aload_n 0, 1) := by decide +kernel
theorem dX2_list_17 : decode cX2_list 17 = .ok (.aload_n 0, 1) := by decide +kernel
theorem dX2_list_18 : decode cX2_list 18 = .ok (.getfield 38, 3) := by decide +kernel
theorem dX2_list_21 : decode cX2_list 21 = .ok (.invokevirtual 96, 3) := by decide +kernel
theorem dX2_list_24 : decode cX2_list 24 = .ok (.istore_n 2, 1) := by decide +kernel
theorem dX2_list_25 : decode cX2_list 25 = .ok (.iconst 0, 1) := by decide +kernel
theorem dX2_list_26 : decode cX2_list 26 = .ok (.istore_n 3, 1) := by decide +kernel
theorem dX2_list_27 : decode cX2_list 27 = .ok (.iload_n 3, 1) := by decide +kernel
theorem dX2_list_28 : decode cX2_list 28 = .ok (.aload_n 1, 1) := by decide +kernel
theorem dX2_list_29 : decode cX2_list 29 = .ok (.getfield 99, 3) := by decide +kernel
theorem dX2_list_32 : decode cX2_list 32 = .ok (.if_icmp .ge 32, 3) := by decide +kernel
theorem dX2_list_35 : decode cX2_list 35 = .ok (.iload_n 2, 1) := by decide +kernel
theorem dX2_list_36 : decode cX2_list 36 = .ok (.iload_n 3, 1) := by decide +kernel
theorem dX2_list_37 : decode cX2_list 37 = .ok (.invokestatic 102, 3) := by decide +kernel
theorem dX2_list_40 : decode cX2_list 40 = .ok (.ifCond .eq 18, 3) := by decide +kernel
theorem dX2_list_43 : decode cX2_list 43 = .ok (.aload_n 0, 1) := by decide +kernel
theorem dX2_list_44 : decode cX2_list 44 = .ok (.iload_n 3, 1) := by decide +kernel
theorem dX2_list_45 : decode cX2_list 45 = .ok (.aload_n 0, 1) := by decide +kernel
theorem dX2_list_46 : decode cX2_list 46 = .ok (.aload_n 1, 1) := by decide +kernel
theorem dX2_list_47 : decode cX2_list 47 = .ok (.iload_n 3, 1) := by decide +kernel
theorem dX2_list_48 : decode cX2_list 48 = .ok (.invokevirtual 106, 3) := by decide +kernel
theorem dX2_list_51 : decode cX2_list 51 = .ok (.aload_n 1, 1) := by decide +kernel
theorem dX2_list_52 : decode cX2_list 52 = .ok (.getfield 99, 3) := by decide +kernel
theorem dX2_list_55 : decode cX2_list 55 = .ok (.invokevirtual 110, 3) := by decide +kernel
theorem dX2_list_58 : decode cX2_list 58 = .ok (.iinc 3 1, 3) := by decide +kernel
theorem dX2_list_61 : decode cX2_list 61 = .ok (.goto (-34), 3) := by decide +kernel
theorem dX2_list_64 : decode cX2_list 64 = .ok (.aload_n 0, 1) := by decide +kernel
theorem dX2_list_65 : decode cX2_list 65 = .ok (.getfield 15, 3) := by decide +kernel
theorem dX2_list_68 : decode cX2_list 68 = .ok (.ifCond .ne 15, 3) := by decide +kernel
theorem dX2_list_71 : decode cX2_list 71 = .ok (.aload_n 0, 1) := by decide +kernel
theorem dX2_list_72 : decode cX2_list 72 = .ok (.iconst 0, 1) := by decide +kernel
theorem dX2_list_73 : decode cX2_list 73 = .ok (.bipush (-9), 2) := by decide +kernel
theorem dX2_list_75 : decode cX2_list 75 = .ok (.invokevirtual 114, 3) := by decide +kernel
theorem dX2_list_78 : decode cX2_list 78 = .ok (.aload_n 0, 1) := by decide +kernel
theorem dX2_list_79 : decode cX2_list 79 = .ok (.iconst 1, 1) := by decide +kernel
theorem dX2_list_80 : decode cX2_list 80 = .ok (.putfield 15, 3) := by decide +kernel
theorem dX2_list_83 : decode cX2_list 83 = .ok (.aload_n 0, 1) := by decide +kernel
theorem dX2_list_84 : decode cX2_list 84 = .ok (.getfield 15, 3) := by decide +kernel
theorem dX2_list_87 : decode cX2_list 87 = .ok (.ireturn, 1) := by decide +kernel
theorem dX2_ply_0 : decode cX2_ply 0 = .ok (.iload_n 1, 1) := by decide +kernel
theorem dX2_ply_1 : decode cX2_ply 1 = .ok (.ifCond .lt 22, 3) := by decide +kernel
theorem dX2_ply_4 : decode cX2_ply 4 = .ok (.iload_n 1, 1) := by decide +kernel
theorem dX2_ply_5 : decode cX2_ply 5 = .ok (.aload_n 0, 1) := by decide +kernel
theorem dX2_ply_6 : decode cX2_ply 6 = .ok (.getfield 15, 3) := by decide +kernel
theorem dX2_ply_9 : decode cX2_ply 9 = .ok (.if_icmp .ge 14, 3) := by decide +kernel
theorem dX2_ply_12 : decode cX2_ply 12 = .ok (.aload_n 0, 1) := by decide +kernel
theorem dX2_ply_13 : decode cX2_ply 13 = .ok (.getfield 9, 3) := by decide +kernel
theorem dX2_ply_16 : decode cX2_ply 16 = .ok (.iload_n 1, 1) := by decide +kernel
theorem dX2_ply_17 : decode cX2_ply 17 = .ok (.invokestatic 117, 3) := by decide +kernel
theorem dX2_ply_20 : decode cX2_ply 20 = .ok (.goto 5, 3) := by decide +kernel
theorem dX2_ply_23 : decode cX2_ply 23 = .ok (.bipush (-9), 2) := by decide +kernel
theorem dX2_ply_25 : decode cX2_ply 25 = .ok (.ireturn, 1) := by decide +kernel
theorem dX2_setPly_0 : decode cX2_setPly 0 = .ok (.aload_n 0, 1) := by decide +kernel
theorem dX2_setPly_1 : decode cX2_setPly 1 = .ok (.getfield 9, 3) := by decide +kernel
theorem dX2_setPly_4 : decode cX2_setPly 4 = .ok (.iload_n 1, 1) := by decide +kernel
theorem dX2_setPly_5 : decode cX2_setPly 5 = .ok (.iload_n 2, 1) := by decide +kernel
theorem dX2_setPly_6 : decode cX2_setPly 6 = .ok (.invokestatic 121, 3) := by decide +kernel
theorem dX2_setPly_9 : decode cX2_setPly 9 = .ok (.return_, 1) := by decide +kernel
theorem dX2_follow_0 : decode cX2_follow 0 = .ok (.aload_n 0, 1) := by decide +kernel
theorem dX2_follow_1 : decode cX2_follow 1 = .ok (.aload_n 1, 1) := by decide +kernel
theorem dX2_follow_2 : decode cX2_follow 2 = .ok (.invokevirtual 125, 3) := by decide +kernel
theorem dX2_follow_5 : decode cX2_follow 5 = .ok (.aload_n 0, 1) := by decide +kernel
theorem dX2_follow_6 : decode cX2_follow 6 = .ok (.iload_n 2, 1) := by decide +kernel
theorem dX2_follow_7 : decode cX2_follow 7 = .ok (.iload_n 3, 1) := by decide +kernel
theorem dX2_follow_8 : decode cX2_follow 8 = .ok (.invokevirtual 129, 3) := by decide +kernel
theorem dX2_follow_11 : decode cX2_follow 11 = .ok (.return_, 1) := by decide +kernel
theorem dX2_make_0 : decode cX2_make 0 = .ok (.aload_n 0, 1) := by decide +kernel
theorem dX2_make_1 : decode cX2_make 1 = .ok (.invokevirtual 132, 3) := by decide +kernel
theorem dX2_make_4 : decode cX2_make 4 = .ok (.aload_n 0, 1) := by decide +kernel
theorem dX2_make_5 : decode cX2_make 5 = .ok (.iconst 1, 1) := by decide +kernel
theorem dX2_make_6 : decode cX2_make 6 = .ok (.aload_n 0, 1) := by decide +kernel
theorem dX2_make_7 : decode cX2_make 7 = .ok (.getfield 38, 3) := by decide +kernel
theorem dX2_make_10 : decode cX2_make 10 = .ok (.isub, 1) := by decide +kernel
theorem dX2_make_11 : decode cX2_make 11 = .ok (.putfield 38, 3) := by decide +kernel
theorem dX2_make_14 : decode cX2_make 14 = .ok (.iload_n 1, 1) := by decide +kernel
theorem dX2_make_15 : decode cX2_make 15 = .ok (.bipush (-9), 2) := by decide +kernel
theorem dX2_make_17 : decode cX2_make 17 = .ok (.if_icmp .ne 4, 3) := by decide +kernel
theorem dX2_make_20 : decode cX2_make 20 = .ok (.return_, 1) := by decide +kernel
theorem dX2_make_21 : decode cX2_make 21 = .ok (.iload_n 1, 1) := by decide +kernel
theorem dX2_make_22 : decode cX2_make 22 = .ok (.bipush 100, 2) := by decide +kernel
theorem dX2_make_24 : decode cX2_make 24 = .ok (.idiv, 1) := by decide +kernel
theorem dX2_make_25 : decode cX2_make 25 = .ok (.istore_n 3, 1) := by decide +kernel
theorem dX2_make_26 : decode cX2_make 26 = .ok (.iload_n 1, 1) := by decide +kernel
theorem dX2_make_27 : decode cX2_make 27 = .ok (.bipush 100, 2) := by decide +kernel
theorem dX2_make_29 : decode cX2_make 29 = .ok (.irem, 1) := by decide +kernel
theorem dX2_make_30 : decode cX2_make 30 = .ok (.istore 4, 2) := by decide +kernel
theorem dX2_make_32 : decode cX2_make 32 = .ok (.aload_n 0, 1) := by decide +kernel
theorem dX2_make_33 : decode cX2_make 33 = .ok (.iload 4, 2) := by decide +kernel
theorem dX2_make_35 : decode cX2_make 35 = .ok (.invokevirtual 80, 3) := by decide +kernel
theorem dX2_make_38 : decode cX2_make 38 = .ok (.ifCond .eq 11, 3) := by decide +kernel
theorem dX2_make_41 : decode cX2_make 41 = .ok (.aload_n 0, 1) := by decide +kernel
theorem dX2_make_42 : decode cX2_make 42 = .ok (.iload 4, 2) := by decide +kernel
theorem dX2_make_44 : decode cX2_make 44 = .ok (.iload_n 2, 1) := by decide +kernel
theorem dX2_make_45 : decode cX2_make 45 = .ok (.invokevirtual 135, 3) := by decide +kernel
theorem dX2_make_48 : decode cX2_make 48 = .ok (.return_, 1) := by decide +kernel
theorem dX2_make_49 : decode cX2_make 49 = .ok (.aload_n 0, 1) := by decide +kernel
theorem dX2_make_50 : decode cX2_make 50 = .ok (.iload 4, 2) := by decide +kernel
theorem dX2_make_52 : decode cX2_make 52 = .ok (.aload_n 0, 1) := by decide +kernel
theorem dX2_make_53 : decode cX2_make 53 = .ok (.iload_n 3, 1) := by decide +kernel
theorem dX2_make_54 : decode cX2_make 54 = .ok (.invokevirtual 80, 3) := by decide +kernel
theorem dX2_make_57 : decode cX2_make 57 = .ok (.invokevirtual 56, 3) := by decide +kernel
theorem dX2_make_60 : decode cX2_make 60 = .ok (.aload_n 0, 1) := by decide +kernel
theorem dX2_make_61 : decode cX2_make 61 = .ok (.iload_n 3, 1) := by decide +kernel
theorem dX2_make_62 : decode cX2_make 62 = .ok (.iconst 0, 1) := by decide +kernel
theorem dX2_make_63 : decode cX2_make 63 = .ok (.invokevirtual 56, 3) := by decide +kernel
theorem dX2_make_66 : decode cX2_make 66 = .ok (.return_, 1) := by decide +kernel
theorem dX2_canFellLast_0 : decode cX2_canFellLast 0 = .ok (.aload_n 0, 1) := by decide +kernel
theorem dX2_canFellLast_1 : decode cX2_canFellLast 1 = .ok (.getfield 35, 3) := by decide +kernel
theorem dX2_canFellLast_4 : decode cX2_canFellLast 4 = .ok (.aload_n 0, 1) := by decide +kernel
theorem dX2_canFellLast_5 : decode cX2_canFellLast 5 = .ok (.iconst 1, 1) := by decide +kernel
theorem dX2_canFellLast_6 : decode cX2_canFellLast 6 = .ok (.aload_n 0, 1) := by decide +kernel
theorem dX2_canFellLast_7 : decode cX2_canFellLast 7 = .ok (.getfield 38, 3) := by decide +kernel
theorem dX2_canFellLast_10 : decode cX2_canFellLast 10 = .ok (.isub, 1) := by decide +kernel
theorem dX2_canFellLast_11 : decode cX2_canFellLast 11 = .ok (.invokevirtual 96, 3) := by decide +kernel
theorem dX2_canFellLast_14 : decode cX2_canFellLast 14 = .ok (.iand, 1) := by decide +kernel
theorem dX2_canFellLast_15 : decode cX2_canFellLast 15 = .ok (.istore_n 2, 1) := by decide +kernel
theorem dX2_canFellLast_16 : decode cX2_canFellLast 16 = .ok (.iload_n 2, 1) := by decide +kernel
theorem dX2_canFellLast_17 : decode cX2_canFellLast 17 = .ok (.invokestatic 75, 3) := by decide +kernel
theorem dX2_canFellLast_20 : decode cX2_canFellLast 20 = .ok (.iconst 1, 1) := by decide +kernel
theorem dX2_canFellLast_21 : decode cX2_canFellLast 21 = .ok (.if_icmp .eq 5, 3) := by decide +kernel
theorem dX2_canFellLast_24 : decode cX2_canFellLast 24 = .ok (.iconst 0, 1) := by decide +kernel
theorem dX2_canFellLast_25 : decode cX2_canFellLast 25 = .ok (.ireturn, 1) := by decide +kernel
theorem dX2_canFellLast_26 : decode cX2_canFellLast 26 = .ok (.aload_n 0, 1) := by decide +kernel
theorem dX2_canFellLast_27 : decode cX2_canFellLast 27 = .ok (.aload_n 0, 1) := by decide +kernel
theorem dX2_canFellLast_28 : decode cX2_canFellLast 28 = .ok (.getfield 38, 3) := by decide +kernel
theorem dX2_canFellLast_31 : decode cX2_canFellLast 31 = .ok (.invokevirtual 96, 3) := by decide +kernel
theorem dX2_canFellLast_34 : decode cX2_canFellLast 34 = .ok (.istore_n 3, 1) := by decide +kernel
theorem dX2_canFellLast_35 : decode cX2_canFellLast 35 = .ok (.iconst 0, 1) := by decide +kernel
theorem dX2_canFellLast_36 : decode cX2_canFellLast 36 = .ok (.istore 4, 2) := by decide +kernel
theorem dX2_canFellLast_38 : decode cX2_canFellLast 38 = .ok (.iload 4, 2) := by decide +kernel
theorem dX2_canFellLast_40 : decode cX2_canFellLast 40 = .ok (.aload_n 1, 1) := by decide +kernel
theorem dX2_canFellLast_41 : decode cX2_canFellLast 41 = .ok (.getfield 99, 3) := by decide +kernel
theorem dX2_canFellLast_44 : decode cX2_canFellLast 44 = .ok (.if_icmp .ge 41, 3) := by decide +kernel
theorem dX2_canFellLast_47 : decode cX2_canFellLast 47 = .ok (.iload_n 3, 1) := by decide +kernel
theorem dX2_canFellLast_48 : decode cX2_canFellLast 48 = .ok (.iload 4, 2) := by decide +kernel
theorem dX2_canFellLast_50 : decode cX2_canFellLast 50 = .ok (.invokestatic 102, 3) := by decide +kernel
theorem dX2_canFellLast_53 : decode cX2_canFellLast 53 = .ok (.ifCond .eq 26, 3) := by decide +kernel
theorem dX2_canFellLast_56 : decode cX2_canFellLast 56 = .ok (.aload_n 1, 1) := by decide +kernel
theorem dX2_canFellLast_57 : decode cX2_canFellLast 57 = .ok (.aload_n 0, 1) := by decide +kernel
theorem dX2_canFellLast_58 : decode cX2_canFellLast 58 = .ok (.iload 4, 2) := by decide +kernel
theorem dX2_canFellLast_60 : decode cX2_canFellLast 60 = .ok (.invokevirtual 80, 3) := by decide +kernel
theorem dX2_canFellLast_63 : decode cX2_canFellLast 63 = .ok (.iload 4, 2) := by decide +kernel
theorem dX2_canFellLast_65 : decode cX2_canFellLast 65 = .ok (.aload_n 0, 1) := by decide +kernel
theorem dX2_canFellLast_66 : decode cX2_canFellLast 66 = .ok (.invokevirtual 83, 3) := by decide +kernel
theorem dX2_canFellLast_69 : decode cX2_canFellLast 69 = .ok (.invokevirtual 87, 3) := by decide +kernel
theorem dX2_canFellLast_72 : decode cX2_canFellLast 72 = .ok (.iload_n 2, 1) := by decide +kernel
theorem dX2_canFellLast_73 : decode cX2_canFellLast 73 = .ok (.iand, 1) := by decide +kernel
theorem dX2_canFellLast_74 : decode cX2_canFellLast 74 = .ok (.ifCond .eq 5, 3) := by decide +kernel
theorem dX2_canFellLast_77 : decode cX2_canFellLast 77 = .ok (.iconst 1, 1) := by decide +kernel
theorem dX2_canFellLast_78 : decode cX2_canFellLast 78 = .ok (.ireturn, 1) := by decide +kernel
theorem dX2_canFellLast_79 : decode cX2_canFellLast 79 = .ok (.iinc 4 1, 3) := by decide +kernel
theorem dX2_canFellLast_82 : decode cX2_canFellLast 82 = .ok (.goto (-44), 3) := by decide +kernel
theorem dX2_canFellLast_85 : decode cX2_canFellLast 85 = .ok (.iconst 0, 1) := by decide +kernel
theorem dX2_canFellLast_86 : decode cX2_canFellLast 86 = .ok (.ireturn, 1) := by decide +kernel
theorem dX2_differing_0 : decode cX2_differing 0 = .ok (.aload_n 0, 1) := by decide +kernel
theorem dX2_differing_1 : decode cX2_differing 1 = .ok (.getfield 19, 3) := by decide +kernel
theorem dX2_differing_4 : decode cX2_differing 4 = .ok (.aload_n 1, 1) := by decide +kernel
theorem dX2_differing_5 : decode cX2_differing 5 = .ok (.getfield 19, 3) := by decide +kernel
theorem dX2_differing_8 : decode cX2_differing 8 = .ok (.lxor, 1) := by decide +kernel
theorem dX2_differing_9 : decode cX2_differing 9 = .ok (.lstore_n 2, 1) := by decide +kernel
theorem dX2_differing_10 : decode cX2_differing 10 = .ok (.lload_n 2, 1) := by decide +kernel
theorem dX2_differing_11 : decode cX2_differing 11 = .ok (.lload_n 2, 1) := by decide +kernel
theorem dX2_differing_12 : decode cX2_differing 12 = .ok (.iconst 1, 1) := by decide +kernel
theorem dX2_differing_13 : decode cX2_differing 13 = .ok (.lushr, 1) := by decide +kernel
theorem dX2_differing_14 : decode cX2_differing 14 = .ok (.lor, 1) := by decide +kernel
theorem dX2_differing_15 : decode cX2_differing 15 = .ok (.lstore_n 2, 1) := by decide +kernel
theorem dX2_differing_16 : decode cX2_differing 16 = .ok (.lload_n 2, 1) := by decide +kernel
theorem dX2_differing_17 : decode cX2_differing 17 = .ok (.lload_n 2, 1) := by decide +kernel
theorem dX2_differing_18 : decode cX2_differing 18 = .ok (.iconst 2, 1) := by decide +kernel
theorem dX2_differing_19 : decode cX2_differing 19 = .ok (.lushr, 1) := by decide +kernel
theorem dX2_differing_20 : decode cX2_differing 20 = .ok (.lor, 1) := by decide +kernel
theorem dX2_differing_21 : decode cX2_differing 21 = .ok (.lstore_n 2, 1) := by decide +kernel
theorem dX2_differing_22 : decode cX2_differing 22 = .ok (.lload_n 2, 1) := by decide +kernel
theorem dX2_differing_23 : decode cX2_differing 23 = .ok (.ldc2_w 138, 3) := by decide +kernel
theorem dX2_differing_26 : decode cX2_differing 26 = .ok (.land, 1) := by decide +kernel
theorem dX2_differing_27 : decode cX2_differing 27 = .ok (.invokestatic 140, 3) := by decide +kernel
theorem dX2_differing_30 : decode cX2_differing 30 = .ok (.ireturn, 1) := by decide +kernel
theorem dX2_isAs_0 : decode cX2_isAs 0 = .ok (.aload_n 0, 1) := by decide +kernel
theorem dX2_isAs_1 : decode cX2_isAs 1 = .ok (.getfield 19, 3) := by decide +kernel
theorem dX2_isAs_4 : decode cX2_isAs 4 = .ok (.aload_n 1, 1) := by decide +kernel
theorem dX2_isAs_5 : decode cX2_isAs 5 = .ok (.getfield 19, 3) := by decide +kernel
theorem dX2_isAs_8 : decode cX2_isAs 8 = .ok (.lcmp, 1) := by decide +kernel
theorem dX2_isAs_9 : decode cX2_isAs 9 = .ok (.ifCond .ne 30, 3) := by decide +kernel
theorem dX2_isAs_12 : decode cX2_isAs 12 = .ok (.aload_n 0, 1) := by decide +kernel
theorem dX2_isAs_13 : decode cX2_isAs 13 = .ok (.getfield 23, 3) := by decide +kernel
theorem dX2_isAs_16 : decode cX2_isAs 16 = .ok (.aload_n 1, 1) := by decide +kernel
theorem dX2_isAs_17 : decode cX2_isAs 17 = .ok (.getfield 23, 3) := by decide +kernel
theorem dX2_isAs_20 : decode cX2_isAs 20 = .ok (.lcmp, 1) := by decide +kernel
theorem dX2_isAs_21 : decode cX2_isAs 21 = .ok (.ifCond .ne 18, 3) := by decide +kernel
theorem dX2_isAs_24 : decode cX2_isAs 24 = .ok (.aload_n 0, 1) := by decide +kernel
theorem dX2_isAs_25 : decode cX2_isAs 25 = .ok (.getfield 38, 3) := by decide +kernel
theorem dX2_isAs_28 : decode cX2_isAs 28 = .ok (.aload_n 1, 1) := by decide +kernel
theorem dX2_isAs_29 : decode cX2_isAs 29 = .ok (.getfield 38, 3) := by decide +kernel
theorem dX2_isAs_32 : decode cX2_isAs 32 = .ok (.if_icmp .ne 7, 3) := by decide +kernel
theorem dX2_isAs_35 : decode cX2_isAs 35 = .ok (.iconst 1, 1) := by decide +kernel
theorem dX2_isAs_36 : decode cX2_isAs 36 = .ok (.goto 4, 3) := by decide +kernel
theorem dX2_isAs_39 : decode cX2_isAs 39 = .ok (.iconst 0, 1) := by decide +kernel
theorem dX2_isAs_40 : decode cX2_isAs 40 = .ok (.ireturn, 1) := by decide +kernel
theorem dX2_listFrom_0 : decode cX2_listFrom 0 = .ok (.iconst 0, 1) := by decide +kernel
theorem dX2_listFrom_1 : decode cX2_listFrom 1 = .ok (.istore 4, 2) := by decide +kernel
theorem dX2_listFrom_3 : decode cX2_listFrom 3 = .ok (.iload 4, 2) := by decide +kernel
theorem dX2_listFrom_5 : decode cX2_listFrom 5 = .ok (.iload_n 3, 1) := by decide +kernel
theorem dX2_listFrom_6 : decode cX2_listFrom 6 = .ok (.if_icmp .ge 43, 3) := by decide +kernel
theorem dX2_listFrom_9 : decode cX2_listFrom 9 = .ok (.iload_n 2, 1) := by decide +kernel
theorem dX2_listFrom_10 : decode cX2_listFrom 10 = .ok (.iload 4, 2) := by decide +kernel
theorem dX2_listFrom_12 : decode cX2_listFrom 12 = .ok (.invokestatic 102, 3) := by decide +kernel
theorem dX2_listFrom_15 : decode cX2_listFrom 15 = .ok (.ifCond .eq 28, 3) := by decide +kernel
theorem dX2_listFrom_18 : decode cX2_listFrom 18 = .ok (.aload_n 0, 1) := by decide +kernel
theorem dX2_listFrom_19 : decode cX2_listFrom 19 = .ok (.aload_n 0, 1) := by decide +kernel
theorem dX2_listFrom_20 : decode cX2_listFrom 20 = .ok (.getfield 15, 3) := by decide +kernel
theorem dX2_listFrom_23 : decode cX2_listFrom 23 = .ok (.iload_n 1, 1) := by decide +kernel
theorem dX2_listFrom_24 : decode cX2_listFrom 24 = .ok (.bipush 100, 2) := by decide +kernel
theorem dX2_listFrom_26 : decode cX2_listFrom 26 = .ok (.imul, 1) := by decide +kernel
theorem dX2_listFrom_27 : decode cX2_listFrom 27 = .ok (.iload 4, 2) := by decide +kernel
theorem dX2_listFrom_29 : decode cX2_listFrom 29 = .ok (.iadd, 1) := by decide +kernel
theorem dX2_listFrom_30 : decode cX2_listFrom 30 = .ok (.invokevirtual 114, 3) := by decide +kernel
theorem dX2_listFrom_33 : decode cX2_listFrom 33 = .ok (.aload_n 0, 1) := by decide +kernel
theorem dX2_listFrom_34 : decode cX2_listFrom 34 = .ok (.dup, 1) := by decide +kernel
theorem dX2_listFrom_35 : decode cX2_listFrom 35 = .ok (.getfield 15, 3) := by decide +kernel
theorem dX2_listFrom_38 : decode cX2_listFrom 38 = .ok (.iconst 1, 1) := by decide +kernel
theorem dX2_listFrom_39 : decode cX2_listFrom 39 = .ok (.iadd, 1) := by decide +kernel
theorem dX2_listFrom_40 : decode cX2_listFrom 40 = .ok (.putfield 15, 3) := by decide +kernel
theorem dX2_listFrom_43 : decode cX2_listFrom 43 = .ok (.iinc 4 1, 3) := by decide +kernel
theorem dX2_listFrom_46 : decode cX2_listFrom 46 = .ok (.goto (-43), 3) := by decide +kernel
theorem dX2_listFrom_49 : decode cX2_listFrom 49 = .ok (.return_, 1) := by decide +kernel
theorem dX2_fall_0 : decode cX2_fall 0 = .ok (.aload_n 0, 1) := by decide +kernel
theorem dX2_fall_1 : decode cX2_fall 1 = .ok (.getfield 35, 3) := by decide +kernel
theorem dX2_fall_4 : decode cX2_fall 4 = .ok (.iload_n 1, 1) := by decide +kernel
theorem dX2_fall_5 : decode cX2_fall 5 = .ok (.invokestatic 102, 3) := by decide +kernel
theorem dX2_fall_8 : decode cX2_fall 8 = .ok (.istore_n 3, 1) := by decide +kernel
theorem dX2_fall_9 : decode cX2_fall 9 = .ok (.aload_n 0, 1) := by decide +kernel
theorem dX2_fall_10 : decode cX2_fall 10 = .ok (.iload_n 1, 1) := by decide +kernel
theorem dX2_fall_11 : decode cX2_fall 11 = .ok (.invokevirtual 80, 3) := by decide +kernel
theorem dX2_fall_14 : decode cX2_fall 14 = .ok (.invokestatic 60, 3) := by decide +kernel
theorem dX2_fall_17 : decode cX2_fall 17 = .ok (.istore 4, 2) := by decide +kernel
theorem dX2_fall_19 : decode cX2_fall 19 = .ok (.aload_n 0, 1) := by decide +kernel
theorem dX2_fall_20 : decode cX2_fall 20 = .ok (.iload_n 1, 1) := by decide +kernel
theorem dX2_fall_21 : decode cX2_fall 21 = .ok (.iconst 1, 1) := by decide +kernel
theorem dX2_fall_22 : decode cX2_fall 22 = .ok (.invokevirtual 56, 3) := by decide +kernel
theorem dX2_fall_25 : decode cX2_fall 25 = .ok (.aload_n 0, 1) := by decide +kernel
theorem dX2_fall_26 : decode cX2_fall 26 = .ok (.dup, 1) := by decide +kernel
theorem dX2_fall_27 : decode cX2_fall 27 = .ok (.getfield 23, 3) := by decide +kernel
theorem dX2_fall_30 : decode cX2_fall 30 = .ok (.iload_n 2, 1) := by decide +kernel
theorem dX2_fall_31 : decode cX2_fall 31 = .ok (.i2l, 1) := by decide +kernel
theorem dX2_fall_32 : decode cX2_fall 32 = .ok (.iconst 4, 1) := by decide +kernel
theorem dX2_fall_33 : decode cX2_fall 33 = .ok (.iload_n 1, 1) := by decide +kernel
theorem dX2_fall_34 : decode cX2_fall 34 = .ok (.imul, 1) := by decide +kernel
theorem dX2_fall_35 : decode cX2_fall 35 = .ok (.lshl, 1) := by decide +kernel
theorem dX2_fall_36 : decode cX2_fall 36 = .ok (.lor, 1) := by decide +kernel
theorem dX2_fall_37 : decode cX2_fall 37 = .ok (.putfield 23, 3) := by decide +kernel
theorem dX2_fall_40 : decode cX2_fall 40 = .ok (.iload_n 3, 1) := by decide +kernel
theorem dX2_fall_41 : decode cX2_fall 41 = .ok (.ifCond .eq 23, 3) := by decide +kernel
theorem dX2_fall_44 : decode cX2_fall 44 = .ok (.aload_n 0, 1) := by decide +kernel
theorem dX2_fall_45 : decode cX2_fall 45 = .ok (.getfield 35, 3) := by decide +kernel
theorem dX2_fall_48 : decode cX2_fall 48 = .ok (.aload_n 0, 1) := by decide +kernel
theorem dX2_fall_49 : decode cX2_fall 49 = .ok (.iload 4, 2) := by decide +kernel
theorem dX2_fall_51 : decode cX2_fall 51 = .ok (.invokevirtual 96, 3) := by decide +kernel
theorem dX2_fall_54 : decode cX2_fall 54 = .ok (.iand, 1) := by decide +kernel
theorem dX2_fall_55 : decode cX2_fall 55 = .ok (.ifCond .ne 9, 3) := by decide +kernel
theorem dX2_fall_58 : decode cX2_fall 58 = .ok (.aload_n 0, 1) := by decide +kernel
theorem dX2_fall_59 : decode cX2_fall 59 = .ok (.iload 4, 2) := by decide +kernel
theorem dX2_fall_61 : decode cX2_fall 61 = .ok (.putfield 41, 3) := by decide +kernel
theorem dX2_fall_64 : decode cX2_fall 64 = .ok (.return_, 1) := by decide +kernel
theorem dX2_age_0 : decode cX2_age 0 = .ok (.aload_n 0, 1) := by decide +kernel
theorem dX2_age_1 : decode cX2_age 1 = .ok (.getfield 23, 3) := by decide +kernel
theorem dX2_age_4 : decode cX2_age 4 = .ok (.lconst 0, 1) := by decide +kernel
theorem dX2_age_5 : decode cX2_age 5 = .ok (.lcmp, 1) := by decide +kernel
theorem dX2_age_6 : decode cX2_age 6 = .ok (.ifCond .ne 4, 3) := by decide +kernel
theorem dX2_age_9 : decode cX2_age 9 = .ok (.return_, 1) := by decide +kernel
theorem dX2_age_10 : decode cX2_age 10 = .ok (.iconst 0, 1) := by decide +kernel
theorem dX2_age_11 : decode cX2_age 11 = .ok (.istore_n 1, 1) := by decide +kernel
theorem dX2_age_12 : decode cX2_age 12 = .ok (.iload_n 1, 1) := by decide +kernel
theorem dX2_age_13 : decode cX2_age 13 = .ok (.bipush 16, 2) := by decide +kernel
theorem dX2_age_15 : decode cX2_age 15 = .ok (.if_icmp .ge 44, 3) := by decide +kernel
theorem dX2_age_18 : decode cX2_age 18 = .ok (.aload_n 0, 1) := by decide +kernel
theorem dX2_age_19 : decode cX2_age 19 = .ok (.iload_n 1, 1) := by decide +kernel
theorem dX2_age_20 : decode cX2_age 20 = .ok (.invokevirtual 145, 3) := by decide +kernel
theorem dX2_age_23 : decode cX2_age 23 = .ok (.istore_n 2, 1) := by decide +kernel
theorem dX2_age_24 : decode cX2_age 24 = .ok (.iload_n 2, 1) := by decide +kernel
theorem dX2_age_25 : decode cX2_age 25 = .ok (.ifCond .le 17, 3) := by decide +kernel
theorem dX2_age_28 : decode cX2_age 28 = .ok (.aload_n 0, 1) := by decide +kernel
theorem dX2_age_29 : decode cX2_age 29 = .ok (.dup, 1) := by decide +kernel
theorem dX2_age_30 : decode cX2_age 30 = .ok (.getfield 23, 3) := by decide +kernel
theorem dX2_age_33 : decode cX2_age 33 = .ok (.lconst 1, 1) := by decide +kernel
theorem dX2_age_34 : decode cX2_age 34 = .ok (.iconst 4, 1) := by decide +kernel
theorem dX2_age_35 : decode cX2_age 35 = .ok (.iload_n 1, 1) := by decide +kernel
theorem dX2_age_36 : decode cX2_age 36 = .ok (.imul, 1) := by decide +kernel
theorem dX2_age_37 : decode cX2_age 37 = .ok (.lshl, 1) := by decide +kernel
theorem dX2_age_38 : decode cX2_age 38 = .ok (.lsub, 1) := by decide +kernel
theorem dX2_age_39 : decode cX2_age 39 = .ok (.putfield 23, 3) := by decide +kernel
theorem dX2_age_42 : decode cX2_age 42 = .ok (.iload_n 2, 1) := by decide +kernel
theorem dX2_age_43 : decode cX2_age 43 = .ok (.iconst 1, 1) := by decide +kernel
theorem dX2_age_44 : decode cX2_age 44 = .ok (.if_icmp .ne 9, 3) := by decide +kernel
theorem dX2_age_47 : decode cX2_age 47 = .ok (.aload_n 0, 1) := by decide +kernel
theorem dX2_age_48 : decode cX2_age 48 = .ok (.iload_n 1, 1) := by decide +kernel
theorem dX2_age_49 : decode cX2_age 49 = .ok (.iconst 0, 1) := by decide +kernel
theorem dX2_age_50 : decode cX2_age 50 = .ok (.invokevirtual 56, 3) := by decide +kernel
theorem dX2_age_53 : decode cX2_age 53 = .ok (.iinc 1 1, 3) := by decide +kernel
theorem dX2_age_56 : decode cX2_age 56 = .ok (.goto (-44), 3) := by decide +kernel
theorem dX2_age_59 : decode cX2_age 59 = .ok (.return_, 1) := by decide +kernel
theorem dX2_nibble_0 : decode cX2_nibble 0 = .ok (.lload_n 0, 1) := by decide +kernel
theorem dX2_nibble_1 : decode cX2_nibble 1 = .ok (.iconst 4, 1) := by decide +kernel
theorem dX2_nibble_2 : decode cX2_nibble 2 = .ok (.iload_n 2, 1) := by decide +kernel
theorem dX2_nibble_3 : decode cX2_nibble 3 = .ok (.imul, 1) := by decide +kernel
theorem dX2_nibble_4 : decode cX2_nibble 4 = .ok (.lushr, 1) := by decide +kernel
theorem dX2_nibble_5 : decode cX2_nibble 5 = .ok (.l2i, 1) := by decide +kernel
theorem dX2_nibble_6 : decode cX2_nibble 6 = .ok (.bipush 15, 2) := by decide +kernel
theorem dX2_nibble_8 : decode cX2_nibble 8 = .ok (.iand, 1) := by decide +kernel
theorem dX2_nibble_9 : decode cX2_nibble 9 = .ok (.ireturn, 1) := by decide +kernel
theorem dX2_with_0 : decode cX2_with 0 = .ok (.iload_n 2, 1) := by decide +kernel
theorem dX2_with_1 : decode cX2_with 1 = .ok (.ifCond .eq 9, 3) := by decide +kernel
theorem dX2_with_4 : decode cX2_with 4 = .ok (.iload_n 0, 1) := by decide +kernel
theorem dX2_with_5 : decode cX2_with 5 = .ok (.iload_n 1, 1) := by decide +kernel
theorem dX2_with_6 : decode cX2_with 6 = .ok (.ior, 1) := by decide +kernel
theorem dX2_with_7 : decode cX2_with 7 = .ok (.goto 8, 3) := by decide +kernel
theorem dX2_with_10 : decode cX2_with 10 = .ok (.iload_n 0, 1) := by decide +kernel
theorem dX2_with_11 : decode cX2_with 11 = .ok (.iload_n 1, 1) := by decide +kernel
theorem dX2_with_12 : decode cX2_with 12 = .ok (.iconst (-1), 1) := by decide +kernel
theorem dX2_with_13 : decode cX2_with 13 = .ok (.ixor, 1) := by decide +kernel
theorem dX2_with_14 : decode cX2_with 14 = .ok (.iand, 1) := by decide +kernel
theorem dX2_with_15 : decode cX2_with 15 = .ok (.ireturn, 1) := by decide +kernel
theorem dX3_init_0 : decode cX3_init 0 = .ok (.aload_n 0, 1) := by decide +kernel
theorem dX3_init_1 : decode cX3_init 1 = .ok (.invokespecial 3, 3) := by decide +kernel
theorem dX3_init_4 : decode cX3_init 4 = .ok (.iload_n 1, 1) := by decide +kernel
theorem dX3_init_5 : decode cX3_init 5 = .ok (.ifCond .le 7, 3) := by decide +kernel
theorem dX3_init_8 : decode cX3_init 8 = .ok (.iload_n 1, 1) := by decide +kernel
theorem dX3_init_9 : decode cX3_init 9 = .ok (.goto 4, 3) := by decide +kernel
theorem dX3_init_12 : decode cX3_init 12 = .ok (.iconst 0, 1) := by decide +kernel
theorem dX3_init_13 : decode cX3_init 13 = .ok (.istore_n 2, 1) := by decide +kernel
theorem dX3_init_14 : decode cX3_init 14 = .ok (.aload_n 0, 1) := by decide +kernel
theorem dX3_init_15 : decode cX3_init 15 = .ok (.iload_n 2, 1) := by decide +kernel
theorem dX3_init_16 : decode cX3_init 16 = .ok (.newarray .long, 2) := by decide +kernel
theorem dX3_init_18 : decode cX3_init 18 = .ok (.putfield 9, 3) := by decide +kernel
theorem dX3_init_21 : decode cX3_init 21 = .ok (.aload_n 0, 1) := by decide +kernel
theorem dX3_init_22 : decode cX3_init 22 = .ok (.iload_n 2, 1) := by decide +kernel
theorem dX3_init_23 : decode cX3_init 23 = .ok (.newarray .long, 2) := by decide +kernel
theorem dX3_init_25 : decode cX3_init 25 = .ok (.putfield 15, 3) := by decide +kernel
theorem dX3_init_28 : decode cX3_init 28 = .ok (.aload_n 0, 1) := by decide +kernel
theorem dX3_init_29 : decode cX3_init 29 = .ok (.iload_n 2, 1) := by decide +kernel
theorem dX3_init_30 : decode cX3_init 30 = .ok (.newarray .int, 2) := by decide +kernel
theorem dX3_init_32 : decode cX3_init 32 = .ok (.putfield 18, 3) := by decide +kernel
theorem dX3_init_35 : decode cX3_init 35 = .ok (.aload_n 0, 1) := by decide +kernel
theorem dX3_init_36 : decode cX3_init 36 = .ok (.iload_n 2, 1) := by decide +kernel
theorem dX3_init_37 : decode cX3_init 37 = .ok (.newarray .int, 2) := by decide +kernel
theorem dX3_init_39 : decode cX3_init 39 = .ok (.putfield 22, 3) := by decide +kernel
theorem dX3_init_42 : decode cX3_init 42 = .ok (.iconst 0, 1) := by decide +kernel
theorem dX3_init_43 : decode cX3_init 43 = .ok (.istore_n 3, 1) := by decide +kernel
theorem dX3_init_44 : decode cX3_init 44 = .ok (.iload_n 3, 1) := by decide +kernel
theorem dX3_init_45 : decode cX3_init 45 = .ok (.iload_n 2, 1) := by decide +kernel
theorem dX3_init_46 : decode cX3_init 46 = .ok (.if_icmp .ge 17, 3) := by decide +kernel
theorem dX3_init_49 : decode cX3_init 49 = .ok (.aload_n 0, 1) := by decide +kernel
theorem dX3_init_50 : decode cX3_init 50 = .ok (.getfield 18, 3) := by decide +kernel
theorem dX3_init_53 : decode cX3_init 53 = .ok (.iload_n 3, 1) := by decide +kernel
theorem dX3_init_54 : decode cX3_init 54 = .ok (.bipush (-9), 2) := by decide +kernel
theorem dX3_init_56 : decode cX3_init 56 = .ok (.iastore, 1) := by decide +kernel
theorem dX3_init_57 : decode cX3_init 57 = .ok (.iinc 3 1, 3) := by decide +kernel
theorem dX3_init_60 : decode cX3_init 60 = .ok (.goto (-16), 3) := by decide +kernel
theorem dX3_init_63 : decode cX3_init 63 = .ok (.return_, 1) := by decide +kernel
theorem dX3_clear_0 : decode cX3_clear 0 = .ok (.iconst 0, 1) := by decide +kernel
theorem dX3_clear_1 : decode cX3_clear 1 = .ok (.istore_n 1, 1) := by decide +kernel
theorem dX3_clear_2 : decode cX3_clear 2 = .ok (.iload_n 1, 1) := by decide +kernel
theorem dX3_clear_3 : decode cX3_clear 3 = .ok (.aload_n 0, 1) := by decide +kernel
theorem dX3_clear_4 : decode cX3_clear 4 = .ok (.getfield 18, 3) := by decide +kernel
theorem dX3_clear_7 : decode cX3_clear 7 = .ok (.arraylength, 1) := by decide +kernel
theorem dX3_clear_8 : decode cX3_clear 8 = .ok (.if_icmp .ge 17, 3) := by decide +kernel
theorem dX3_clear_11 : decode cX3_clear 11 = .ok (.aload_n 0, 1) := by decide +kernel
theorem dX3_clear_12 : decode cX3_clear 12 = .ok (.getfield 18, 3) := by decide +kernel
theorem dX3_clear_15 : decode cX3_clear 15 = .ok (.iload_n 1, 1) := by decide +kernel
theorem dX3_clear_16 : decode cX3_clear 16 = .ok (.bipush (-9), 2) := by decide +kernel
theorem dX3_clear_18 : decode cX3_clear 18 = .ok (.iastore, 1) := by decide +kernel
theorem dX3_clear_19 : decode cX3_clear 19 = .ok (.iinc 1 1, 3) := by decide +kernel
theorem dX3_clear_22 : decode cX3_clear 22 = .ok (.goto (-20), 3) := by decide +kernel
theorem dX3_clear_25 : decode cX3_clear 25 = .ok (.return_, 1) := by decide +kernel
theorem dX3_holds_0 : decode cX3_holds 0 = .ok (.aload_n 0, 1) := by decide +kernel
theorem dX3_holds_1 : decode cX3_holds 1 = .ok (.iload_n 1, 1) := by decide +kernel
theorem dX3_holds_2 : decode cX3_holds 2 = .ok (.invokevirtual 25, 3) := by decide +kernel
theorem dX3_holds_5 : decode cX3_holds 5 = .ok (.ifCond .eq 18, 3) := by decide +kernel
theorem dX3_holds_8 : decode cX3_holds 8 = .ok (.aload_n 0, 1) := by decide +kernel
theorem dX3_holds_9 : decode cX3_holds 9 = .ok (.getfield 18, 3) := by decide +kernel
theorem dX3_holds_12 : decode cX3_holds 12 = .ok (.iload_n 1, 1) := by decide +kernel
theorem dX3_holds_13 : decode cX3_holds 13 = .ok (.iaload, 1) := by decide +kernel
theorem dX3_holds_14 : decode cX3_holds 14 = .ok (.bipush (-9), 2) := by decide +kernel
theorem dX3_holds_16 : decode cX3_holds 16 = .ok (.if_icmp .eq 7, 3) := by decide +kernel
theorem dX3_holds_19 : decode cX3_holds 19 = .ok (.iconst 1, 1) := by decide +kernel
theorem dX3_holds_20 : decode cX3_holds 20 = .ok (.goto 4, 3) := by decide +kernel
theorem dX3_holds_23 : decode cX3_holds 23 = .ok (.iconst 0, 1) := by decide +kernel
theorem dX3_holds_24 : decode cX3_holds 24 = .ok (.ireturn, 1) := by decide +kernel
theorem dX3_set_0 : decode cX3_set 0 = .ok (.aload_n 0, 1) := by decide +kernel
theorem dX3_set_1 : decode cX3_set 1 = .ok (.iload_n 1, 1) := by decide +kernel
theorem dX3_set_2 : decode cX3_set 2 = .ok (.invokevirtual 25, 3) := by decide +kernel
theorem dX3_set_5 : decode cX3_set 5 = .ok (.ifCond .eq 43, 3) := by decide +kernel
theorem dX3_set_8 : decode cX3_set 8 = .ok (.aload_n 0, 1) := by decide +kernel
theorem dX3_set_9 : decode cX3_set 9 = .ok (.getfield 9, 3) := by decide +kernel
theorem dX3_set_12 : decode cX3_set 12 = .ok (.iload_n 1, 1) := by decide +kernel
theorem dX3_set_13 : decode cX3_set 13 = .ok (.aload_n 2, 1) := by decide +kernel
theorem dX3_set_14 : decode cX3_set 14 = .ok (.getfield 29, 3) := by decide +kernel
theorem dX3_set_17 : decode cX3_set 17 = .ok (.lastore, 1) := by decide +kernel
theorem dX3_set_18 : decode cX3_set 18 = .ok (.aload_n 0, 1) := by decide +kernel
theorem dX3_set_19 : decode cX3_set 19 = .ok (.getfield 15, 3) := by decide +kernel
theorem dX3_set_22 : decode cX3_set 22 = .ok (.iload_n 1, 1) := by decide +kernel
theorem dX3_set_23 : decode cX3_set 23 = .ok (.aload_n 2, 1) := by decide +kernel
theorem dX3_set_24 : decode cX3_set 24 = .ok (.getfield 34, 3) := by decide +kernel
theorem dX3_set_27 : decode cX3_set 27 = .ok (.lastore, 1) := by decide +kernel
theorem dX3_set_28 : decode cX3_set 28 = .ok (.aload_n 0, 1) := by decide +kernel
theorem dX3_set_29 : decode cX3_set 29 = .ok (.getfield 18, 3) := by decide +kernel
theorem dX3_set_32 : decode cX3_set 32 = .ok (.iload_n 1, 1) := by decide +kernel
theorem dX3_set_33 : decode cX3_set 33 = .ok (.aload_n 2, 1) := by decide +kernel
theorem dX3_set_34 : decode cX3_set 34 = .ok (.getfield 36, 3) := by decide +kernel
theorem dX3_set_37 : decode cX3_set 37 = .ok (.iastore, 1) := by decide +kernel
theorem dX3_set_38 : decode cX3_set 38 = .ok (.aload_n 0, 1) := by decide +kernel
theorem dX3_set_39 : decode cX3_set 39 = .ok (.getfield 22, 3) := by decide +kernel
theorem dX3_set_42 : decode cX3_set 42 = .ok (.iload_n 1, 1) := by decide +kernel
theorem dX3_set_43 : decode cX3_set 43 = .ok (.aload_n 2, 1) := by decide +kernel
theorem dX3_set_44 : decode cX3_set 44 = .ok (.getfield 40, 3) := by decide +kernel
theorem dX3_set_47 : decode cX3_set 47 = .ok (.iastore, 1) := by decide +kernel
theorem dX3_set_48 : decode cX3_set 48 = .ok (.return_, 1) := by decide +kernel
theorem dX3_get_0 : decode cX3_get 0 = .ok (.aload_n 0, 1) := by decide +kernel
theorem dX3_get_1 : decode cX3_get 1 = .ok (.iload_n 1, 1) := by decide +kernel
theorem dX3_get_2 : decode cX3_get 2 = .ok (.invokevirtual 43, 3) := by decide +kernel
theorem dX3_get_5 : decode cX3_get 5 = .ok (.ifCond .eq 31, 3) := by decide +kernel
theorem dX3_get_8 : decode cX3_get 8 = .ok (.aload_n 2, 1) := by decide +kernel
theorem dX3_get_9 : decode cX3_get 9 = .ok (.aload_n 0, 1) := by decide +kernel
theorem dX3_get_10 : decode cX3_get 10 = .ok (.getfield 9, 3) := by decide +kernel
theorem dX3_get_13 : decode cX3_get 13 = .ok (.iload_n 1, 1) := by decide +kernel
theorem dX3_get_14 : decode cX3_get 14 = .ok (.laload, 1) := by decide +kernel
theorem dX3_get_15 : decode cX3_get 15 = .ok (.aload_n 0, 1) := by decide +kernel
theorem dX3_get_16 : decode cX3_get 16 = .ok (.getfield 15, 3) := by decide +kernel
theorem dX3_get_19 : decode cX3_get 19 = .ok (.iload_n 1, 1) := by decide +kernel
theorem dX3_get_20 : decode cX3_get 20 = .ok (.laload, 1) := by decide +kernel
theorem dX3_get_21 : decode cX3_get 21 = .ok (.aload_n 0, 1) := by decide +kernel
theorem dX3_get_22 : decode cX3_get 22 = .ok (.getfield 18, 3) := by decide +kernel
theorem dX3_get_25 : decode cX3_get 25 = .ok (.iload_n 1, 1) := by decide +kernel
theorem dX3_get_26 : decode cX3_get 26 = .ok (.iaload, 1) := by decide +kernel
theorem dX3_get_27 : decode cX3_get 27 = .ok (.aload_n 0, 1) := by decide +kernel
theorem dX3_get_28 : decode cX3_get 28 = .ok (.getfield 22, 3) := by decide +kernel
theorem dX3_get_31 : decode cX3_get 31 = .ok (.iload_n 1, 1) := by decide +kernel
theorem dX3_get_32 : decode cX3_get 32 = .ok (.iaload, 1) := by decide +kernel
theorem dX3_get_33 : decode cX3_get 33 = .ok (.invokevirtual 46, 3) := by decide +kernel
theorem dX3_get_36 : decode cX3_get 36 = .ok (.return_, 1) := by decide +kernel
theorem dX3_isInside_0 : decode cX3_isInside 0 = .ok (.iload_n 1, 1) := by decide +kernel
theorem dX3_isInside_1 : decode cX3_isInside 1 = .ok (.ifCond .lt 43, 3) := by decide +kernel
theorem dX3_isInside_4 : decode cX3_isInside 4 = .ok (.iload_n 1, 1) := by decide +kernel
theorem dX3_isInside_5 : decode cX3_isInside 5 = .ok (.aload_n 0, 1) := by decide +kernel
theorem dX3_isInside_6 : decode cX3_isInside 6 = .ok (.getfield 9, 3) := by decide +kernel
theorem dX3_isInside_9 : decode cX3_isInside 9 = .ok (.arraylength, 1) := by decide +kernel
theorem dX3_isInside_10 : decode cX3_isInside 10 = .ok (.if_icmp .ge 34, 3) := by decide +kernel
theorem dX3_isInside_13 : decode cX3_isInside 13 = .ok (.iload_n 1, 1) := by decide +kernel
theorem dX3_isInside_14 : decode cX3_isInside 14 = .ok (.aload_n 0, 1) := by decide +kernel
theorem dX3_isInside_15 : decode cX3_isInside 15 = .ok (.getfield 15, 3) := by decide +kernel
theorem dX3_isInside_18 : decode cX3_isInside 18 = .ok (.arraylength, 1) := by decide +kernel
theorem dX3_isInside_19 : decode cX3_isInside 19 = .ok (.if_icmp .ge 25, 3) := by decide +kernel
theorem dX3_isInside_22 : decode cX3_isInside 22 = .ok (.iload_n 1, 1) := by decide +kernel
theorem dX3_isInside_23 : decode cX3_isInside 23 = .ok (.aload_n 0, 1) := by decide +kernel
theorem dX3_isInside_24 : decode cX3_isInside 24 = .ok (.getfield 18, 3) := by decide +kernel
theorem dX3_isInside_27 : decode cX3_isInside 27 = .ok (.arraylength, 1) := by decide +kernel
theorem dX3_isInside_28 : decode cX3_isInside 28 = .ok (.if_icmp .ge 16, 3) := by decide +kernel
theorem dX3_isInside_31 : decode cX3_isInside 31 = .ok (.iload_n 1, 1) := by decide +kernel
theorem dX3_isInside_32 : decode cX3_isInside 32 = .ok (.aload_n 0, 1) := by decide +kernel
theorem dX3_isInside_33 : decode cX3_isInside 33 = .ok (.getfield 22, 3) := by decide +kernel
theorem dX3_isInside_36 : decode cX3_isInside 36 = .ok (.arraylength, 1) := by decide +kernel
theorem dX3_isInside_37 : decode cX3_isInside 37 = .ok (.if_icmp .ge 7, 3) := by decide +kernel
theorem dX3_isInside_40 : decode cX3_isInside 40 = .ok (.iconst 1, 1) := by decide +kernel
theorem dX3_isInside_41 : decode cX3_isInside 41 = .ok (.goto 4, 3) := by decide +kernel
theorem dX3_isInside_44 : decode cX3_isInside 44 = .ok (.iconst 0, 1) := by decide +kernel
theorem dX3_isInside_45 : decode cX3_isInside 45 = .ok (.ireturn, 1) := by decide +kernel
theorem dX4_init_0 : decode cX4_init 0 = .ok (.aload_n 0, 1) := by decide +kernel
theorem dX4_init_1 : decode cX4_init 1 = .ok (.invokespecial 3, 3) := by decide +kernel
theorem dX4_init_4 : decode cX4_init 4 = .ok (.aload_n 0, 1) := by decide +kernel
theorem dX4_init_5 : decode cX4_init 5 = .ok (.bipush 24, 2) := by decide +kernel
theorem dX4_init_7 : decode cX4_init 7 = .ok (.newarray .byte, 2) := by decide +kernel
theorem dX4_init_9 : decode cX4_init 9 = .ok (.putfield 9, 3) := by decide +kernel
theorem dX4_init_12 : decode cX4_init 12 = .ok (.aload_n 0, 1) := by decide +kernel
theorem dX4_init_13 : decode cX4_init 13 = .ok (.iconst 0, 1) := by decide +kernel
theorem dX4_init_14 : decode cX4_init 14 = .ok (.putfield 15, 3) := by decide +kernel
theorem dX4_init_17 : decode cX4_init 17 = .ok (.return_, 1) := by decide +kernel
theorem dX4_add_0 : decode cX4_add 0 = .ok (.iload_n 1, 1) := by decide +kernel
theorem dX4_add_1 : decode cX4_add 1 = .ok (.iconst 1, 1) := by decide +kernel
theorem dX4_add_2 : decode cX4_add 2 = .ok (.isub, 1) := by decide +kernel
theorem dX4_add_3 : decode cX4_add 3 = .ok (.istore 4, 2) := by decide +kernel
theorem dX4_add_5 : decode cX4_add 5 = .ok (.iload 4, 2) := by decide +kernel
theorem dX4_add_7 : decode cX4_add 7 = .ok (.ifCond .lt 56, 3) := by decide +kernel
theorem dX4_add_10 : decode cX4_add 10 = .ok (.aload_n 0, 1) := by decide +kernel
theorem dX4_add_11 : decode cX4_add 11 = .ok (.getfield 15, 3) := by decide +kernel
theorem dX4_add_14 : decode cX4_add 14 = .ok (.ifCond .lt 43, 3) := by decide +kernel
theorem dX4_add_17 : decode cX4_add 17 = .ok (.aload_n 0, 1) := by decide +kernel
theorem dX4_add_18 : decode cX4_add 18 = .ok (.getfield 15, 3) := by decide +kernel
theorem dX4_add_21 : decode cX4_add 21 = .ok (.aload_n 0, 1) := by decide +kernel
theorem dX4_add_22 : decode cX4_add 22 = .ok (.getfield 9, 3) := by decide +kernel
theorem dX4_add_25 : decode cX4_add 25 = .ok (.arraylength, 1) := by decide +kernel
theorem dX4_add_26 : decode cX4_add 26 = .ok (.if_icmp .ge 31, 3) := by decide +kernel
theorem dX4_add_29 : decode cX4_add 29 = .ok (.aload_n 0, 1) := by decide +kernel
theorem dX4_add_30 : decode cX4_add 30 = .ok (.getfield 9, 3) := by decide +kernel
theorem dX4_add_33 : decode cX4_add 33 = .ok (.aload_n 0, 1) := by decide +kernel
theorem dX4_add_34 : decode cX4_add 34 = .ok (.getfield 15, 3) := by decide +kernel
theorem dX4_add_37 : decode cX4_add 37 = .ok (.lload_n 2, 1) := by decide +kernel
theorem dX4_add_38 : decode cX4_add 38 = .ok (.bipush 8, 2) := by decide +kernel
theorem dX4_add_40 : decode cX4_add 40 = .ok (.iload 4, 2) := by decide +kernel
theorem dX4_add_42 : decode cX4_add 42 = .ok (.imul, 1) := by decide +kernel
theorem dX4_add_43 : decode cX4_add 43 = .ok (.lushr, 1) := by decide +kernel
theorem dX4_add_44 : decode cX4_add 44 = .ok (.l2i, 1) := by decide +kernel
theorem dX4_add_45 : decode cX4_add 45 = .ok (.i2b, 1) := by decide +kernel
theorem dX4_add_46 : decode cX4_add 46 = .ok (.bastore, 1) := by decide +kernel
theorem dX4_add_47 : decode cX4_add 47 = .ok (.aload_n 0, 1) := by decide +kernel
theorem dX4_add_48 : decode cX4_add 48 = .ok (.dup, 1) := by decide +kernel
theorem dX4_add_49 : decode cX4_add 49 = .ok (.getfield 15, 3) := by decide +kernel
theorem dX4_add_52 : decode cX4_add 52 = .ok (.iconst 1, 1) := by decide +kernel
theorem dX4_add_53 : decode cX4_add 53 = .ok (.iadd, 1) := by decide +kernel
theorem dX4_add_54 : decode cX4_add 54 = .ok (.putfield 15, 3) := by decide +kernel
theorem dX4_add_57 : decode cX4_add 57 = .ok (.iinc 4 (-1), 3) := by decide +kernel
theorem dX4_add_60 : decode cX4_add 60 = .ok (.goto (-55), 3) := by decide +kernel
theorem dX4_add_63 : decode cX4_add 63 = .ok (.return_, 1) := by decide +kernel
theorem dX4_firstFault_0 : decode cX4_firstFault 0 = .ok (.iconst 0, 1) := by decide +kernel
theorem dX4_firstFault_1 : decode cX4_firstFault 1 = .ok (.istore_n 1, 1) := by decide +kernel
theorem dX4_firstFault_2 : decode cX4_firstFault 2 = .ok (.iload_n 1, 1) := by decide +kernel
theorem dX4_firstFault_3 : decode cX4_firstFault 3 = .ok (.aload_n 0, 1) := by decide +kernel
theorem dX4_firstFault_4 : decode cX4_firstFault 4 = .ok (.getfield 15, 3) := by decide +kernel
theorem dX4_firstFault_7 : decode cX4_firstFault 7 = .ok (.if_icmp .ge 19, 3) := by decide +kernel
theorem dX4_firstFault_10 : decode cX4_firstFault 10 = .ok (.aload_n 0, 1) := by decide +kernel
theorem dX4_firstFault_11 : decode cX4_firstFault 11 = .ok (.iload_n 1, 1) := by decide +kernel
theorem dX4_firstFault_12 : decode cX4_firstFault 12 = .ok (.invokevirtual 19, 3) := by decide +kernel
theorem dX4_firstFault_15 : decode cX4_firstFault 15 = .ok (.ifCond .ne 5, 3) := by decide +kernel
theorem dX4_firstFault_18 : decode cX4_firstFault 18 = .ok (.iload_n 1, 1) := by decide +kernel
theorem dX4_firstFault_19 : decode cX4_firstFault 19 = .ok (.ireturn, 1) := by decide +kernel
theorem dX4_firstFault_20 : decode cX4_firstFault 20 = .ok (.iinc 1 1, 3) := by decide +kernel
theorem dX4_firstFault_23 : decode cX4_firstFault 23 = .ok (.goto (-21), 3) := by decide +kernel
theorem dX4_firstFault_26 : decode cX4_firstFault 26 = .ok (.aload_n 0, 1) := by decide +kernel
theorem dX4_firstFault_27 : decode cX4_firstFault 27 = .ok (.getfield 15, 3) := by decide +kernel
theorem dX4_firstFault_30 : decode cX4_firstFault 30 = .ok (.iconst 5, 1) := by decide +kernel
theorem dX4_firstFault_31 : decode cX4_firstFault 31 = .ok (.if_icmp .lt 14, 3) := by decide +kernel
theorem dX4_firstFault_34 : decode cX4_firstFault 34 = .ok (.aload_n 0, 1) := by decide +kernel
theorem dX4_firstFault_35 : decode cX4_firstFault 35 = .ok (.getfield 15, 3) := by decide +kernel
theorem dX4_firstFault_38 : decode cX4_firstFault 38 = .ok (.aload_n 0, 1) := by decide +kernel
theorem dX4_firstFault_39 : decode cX4_firstFault 39 = .ok (.invokevirtual 23, 3) := by decide +kernel
theorem dX4_firstFault_42 : decode cX4_firstFault 42 = .ok (.if_icmp .ge 10, 3) := by decide +kernel
theorem dX4_firstFault_45 : decode cX4_firstFault 45 = .ok (.aload_n 0, 1) := by decide +kernel
theorem dX4_firstFault_46 : decode cX4_firstFault 46 = .ok (.getfield 15, 3) := by decide +kernel
theorem dX4_firstFault_49 : decode cX4_firstFault 49 = .ok (.goto 5, 3) := by decide +kernel
theorem dX4_firstFault_52 : decode cX4_firstFault 52 = .ok (.bipush (-9), 2) := by decide +kernel
theorem dX4_firstFault_54 : decode cX4_firstFault 54 = .ok (.ireturn, 1) := by decide +kernel
theorem dX4_width_0 : decode cX4_width 0 = .ok (.aload_n 0, 1) := by decide +kernel
theorem dX4_width_1 : decode cX4_width 1 = .ok (.iconst 1, 1) := by decide +kernel
theorem dX4_width_2 : decode cX4_width 2 = .ok (.invokevirtual 27, 3) := by decide +kernel
theorem dX4_width_5 : decode cX4_width 5 = .ok (.ireturn, 1) := by decide +kernel
theorem dX4_height_0 : decode cX4_height 0 = .ok (.aload_n 0, 1) := by decide +kernel
theorem dX4_height_1 : decode cX4_height 1 = .ok (.iconst 2, 1) := by decide +kernel
theorem dX4_height_2 : decode cX4_height 2 = .ok (.invokevirtual 27, 3) := by decide +kernel
theorem dX4_height_5 : decode cX4_height 5 = .ok (.ireturn, 1) := by decide +kernel
theorem dX4_last_0 : decode cX4_last 0 = .ok (.aload_n 0, 1) := by decide +kernel
theorem dX4_last_1 : decode cX4_last 1 = .ok (.iconst 3, 1) := by decide +kernel
theorem dX4_last_2 : decode cX4_last 2 = .ok (.invokevirtual 27, 3) := by decide +kernel
theorem dX4_last_5 : decode cX4_last 5 = .ok (.ireturn, 1) := by decide +kernel
theorem dX4_side_0 : decode cX4_side 0 = .ok (.aload_n 0, 1) := by decide +kernel
theorem dX4_side_1 : decode cX4_side 1 = .ok (.iconst 4, 1) := by decide +kernel
theorem dX4_side_2 : decode cX4_side 2 = .ok (.invokevirtual 31, 3) := by decide +kernel
theorem dX4_side_5 : decode cX4_side 5 = .ok (.bipush 98, 2) := by decide +kernel
theorem dX4_side_7 : decode cX4_side 7 = .ok (.if_icmp .ne 7, 3) := by decide +kernel
theorem dX4_side_10 : decode cX4_side 10 = .ok (.iconst 1, 1) := by decide +kernel
theorem dX4_side_11 : decode cX4_side 11 = .ok (.goto 4, 3) := by decide +kernel
theorem dX4_side_14 : decode cX4_side 14 = .ok (.iconst 0, 1) := by decide +kernel
theorem dX4_side_15 : decode cX4_side 15 = .ok (.ireturn, 1) := by decide +kernel
theorem dX4_signOf_0 : decode cX4_signOf 0 = .ok (.ldc 34, 2) := by decide +kernel
theorem dX4_signOf_2 : decode cX4_signOf 2 = .ok (.aload_n 0, 1) := by decide +kernel
theorem dX4_signOf_3 : decode cX4_signOf 3 = .ok (.iconst 5, 1) := by decide +kernel
theorem dX4_signOf_4 : decode cX4_signOf 4 = .ok (.iload_n 1, 1) := by decide +kernel
theorem dX4_signOf_5 : decode cX4_signOf 5 = .ok (.iadd, 1) := by decide +kernel
theorem dX4_signOf_6 : decode cX4_signOf 6 = .ok (.invokevirtual 31, 3) := by decide +kernel
theorem dX4_signOf_9 : decode cX4_signOf 9 = .ok (.i2c, 1) := by decide +kernel
theorem dX4_signOf_10 : decode cX4_signOf 10 = .ok (.invokevirtual 36, 3) := by decide +kernel
theorem dX4_signOf_13 : decode cX4_signOf 13 = .ok (.ireturn, 1) := by decide +kernel
theorem dX4_byteAt_0 : decode cX4_byteAt 0 = .ok (.iload_n 1, 1) := by decide +kernel
theorem dX4_byteAt_1 : decode cX4_byteAt 1 = .ok (.ifCond .lt 25, 3) := by decide +kernel
theorem dX4_byteAt_4 : decode cX4_byteAt 4 = .ok (.iload_n 1, 1) := by decide +kernel
theorem dX4_byteAt_5 : decode cX4_byteAt 5 = .ok (.aload_n 0, 1) := by decide +kernel
theorem dX4_byteAt_6 : decode cX4_byteAt 6 = .ok (.getfield 9, 3) := by decide +kernel
theorem dX4_byteAt_9 : decode cX4_byteAt 9 = .ok (.arraylength, 1) := by decide +kernel
theorem dX4_byteAt_10 : decode cX4_byteAt 10 = .ok (.if_icmp .ge 16, 3) := by decide +kernel
theorem dX4_byteAt_13 : decode cX4_byteAt 13 = .ok (.aload_n 0, 1) := by decide +kernel
theorem dX4_byteAt_14 : decode cX4_byteAt 14 = .ok (.getfield 9, 3) := by decide +kernel
theorem dX4_byteAt_17 : decode cX4_byteAt 17 = .ok (.iload_n 1, 1) := by decide +kernel
theorem dX4_byteAt_18 : decode cX4_byteAt 18 = .ok (.baload, 1) := by decide +kernel
theorem dX4_byteAt_19 : decode cX4_byteAt 19 = .ok (.sipush 255, 3) := by decide +kernel
theorem dX4_byteAt_22 : decode cX4_byteAt 22 = .ok (.iand, 1) := by decide +kernel
theorem dX4_byteAt_23 : decode cX4_byteAt 23 = .ok (.goto 4, 3) := by decide +kernel
theorem dX4_byteAt_26 : decode cX4_byteAt 26 = .ok (.iconst 0, 1) := by decide +kernel
theorem dX4_byteAt_27 : decode cX4_byteAt 27 = .ok (.ireturn, 1) := by decide +kernel
theorem dX4_figure_0 : decode cX4_figure 0 = .ok (.aload_n 0, 1) := by decide +kernel
theorem dX4_figure_1 : decode cX4_figure 1 = .ok (.iload_n 1, 1) := by decide +kernel
theorem dX4_figure_2 : decode cX4_figure 2 = .ok (.invokevirtual 31, 3) := by decide +kernel
theorem dX4_figure_5 : decode cX4_figure 5 = .ok (.bipush 48, 2) := by decide +kernel
theorem dX4_figure_7 : decode cX4_figure 7 = .ok (.isub, 1) := by decide +kernel
theorem dX4_figure_8 : decode cX4_figure 8 = .ok (.ireturn, 1) := by decide +kernel
theorem dX4_end_0 : decode cX4_end 0 = .ok (.iconst 5, 1) := by decide +kernel
theorem dX4_end_1 : decode cX4_end 1 = .ok (.aload_n 0, 1) := by decide +kernel
theorem dX4_end_2 : decode cX4_end 2 = .ok (.invokevirtual 41, 3) := by decide +kernel
theorem dX4_end_5 : decode cX4_end 5 = .ok (.aload_n 0, 1) := by decide +kernel
theorem dX4_end_6 : decode cX4_end 6 = .ok (.invokevirtual 44, 3) := by decide +kernel
theorem dX4_end_9 : decode cX4_end 9 = .ok (.imul, 1) := by decide +kernel
theorem dX4_end_10 : decode cX4_end 10 = .ok (.iadd, 1) := by decide +kernel
theorem dX4_end_11 : decode cX4_end 11 = .ok (.ireturn, 1) := by decide +kernel
theorem dX4_fits_0 : decode cX4_fits 0 = .ok (.aload_n 0, 1) := by decide +kernel
theorem dX4_fits_1 : decode cX4_fits 1 = .ok (.iload_n 1, 1) := by decide +kernel
theorem dX4_fits_2 : decode cX4_fits 2 = .ok (.invokevirtual 31, 3) := by decide +kernel
theorem dX4_fits_5 : decode cX4_fits 5 = .ok (.istore_n 2, 1) := by decide +kernel
theorem dX4_fits_6 : decode cX4_fits 6 = .ok (.iload_n 1, 1) := by decide +kernel
theorem dX4_fits_7 : decode cX4_fits 7 = .ok (.tableswitch 99 0 4 #[33, 45, 45, 63, 81], 33) := by decide +kernel
theorem dX4_fits_40 : decode cX4_fits 40 = .ok (.iload_n 2, 1) := by decide +kernel
theorem dX4_fits_41 : decode cX4_fits 41 = .ok (.bipush 71, 2) := by decide +kernel
theorem dX4_fits_43 : decode cX4_fits 43 = .ok (.if_icmp .ne 7, 3) := by decide +kernel
theorem dX4_fits_46 : decode cX4_fits 46 = .ok (.iconst 1, 1) := by decide +kernel
theorem dX4_fits_47 : decode cX4_fits 47 = .ok (.goto 4, 3) := by decide +kernel
theorem dX4_fits_50 : decode cX4_fits 50 = .ok (.iconst 0, 1) := by decide +kernel
theorem dX4_fits_51 : decode cX4_fits 51 = .ok (.ireturn, 1) := by decide +kernel
theorem dX4_fits_52 : decode cX4_fits 52 = .ok (.iload_n 2, 1) := by decide +kernel
theorem dX4_fits_53 : decode cX4_fits 53 = .ok (.bipush 49, 2) := by decide +kernel
theorem dX4_fits_55 : decode cX4_fits 55 = .ok (.if_icmp .lt 13, 3) := by decide +kernel
theorem dX4_fits_58 : decode cX4_fits 58 = .ok (.iload_n 2, 1) := by decide +kernel
theorem dX4_fits_59 : decode cX4_fits 59 = .ok (.bipush 52, 2) := by decide +kernel
theorem dX4_fits_61 : decode cX4_fits 61 = .ok (.if_icmp .gt 7, 3) := by decide +kernel
theorem dX4_fits_64 : decode cX4_fits 64 = .ok (.iconst 1, 1) := by decide +kernel
theorem dX4_fits_65 : decode cX4_fits 65 = .ok (.goto 4, 3) := by decide +kernel
theorem dX4_fits_68 : decode cX4_fits 68 = .ok (.iconst 0, 1) := by decide +kernel
theorem dX4_fits_69 : decode cX4_fits 69 = .ok (.ireturn, 1) := by decide +kernel
theorem dX4_fits_70 : decode cX4_fits 70 = .ok (.iload_n 2, 1) := by decide +kernel
theorem dX4_fits_71 : decode cX4_fits 71 = .ok (.bipush 48, 2) := by decide +kernel
theorem dX4_fits_73 : decode cX4_fits 73 = .ok (.if_icmp .lt 13, 3) := by decide +kernel
theorem dX4_fits_76 : decode cX4_fits 76 = .ok (.iload_n 2, 1) := by decide +kernel
theorem dX4_fits_77 : decode cX4_fits 77 = .ok (.bipush 57, 2) := by decide +kernel
theorem dX4_fits_79 : decode cX4_fits 79 = .ok (.if_icmp .gt 7, 3) := by decide +kernel
theorem dX4_fits_82 : decode cX4_fits 82 = .ok (.iconst 1, 1) := by decide +kernel
theorem dX4_fits_83 : decode cX4_fits 83 = .ok (.goto 4, 3) := by decide +kernel
theorem dX4_fits_86 : decode cX4_fits 86 = .ok (.iconst 0, 1) := by decide +kernel
theorem dX4_fits_87 : decode cX4_fits 87 = .ok (.ireturn, 1) := by decide +kernel
theorem dX4_fits_88 : decode cX4_fits 88 = .ok (.iload_n 2, 1) := by decide +kernel
theorem dX4_fits_89 : decode cX4_fits 89 = .ok (.bipush 119, 2) := by decide +kernel
theorem dX4_fits_91 : decode cX4_fits 91 = .ok (.if_icmp .eq 9, 3) := by decide +kernel
theorem dX4_fits_94 : decode cX4_fits 94 = .ok (.iload_n 2, 1) := by decide +kernel
theorem dX4_fits_95 : decode cX4_fits 95 = .ok (.bipush 98, 2) := by decide +kernel
theorem dX4_fits_97 : decode cX4_fits 97 = .ok (.if_icmp .ne 7, 3) := by decide +kernel
theorem dX4_fits_100 : decode cX4_fits 100 = .ok (.iconst 1, 1) := by decide +kernel
theorem dX4_fits_101 : decode cX4_fits 101 = .ok (.goto 4, 3) := by decide +kernel
theorem dX4_fits_104 : decode cX4_fits 104 = .ok (.iconst 0, 1) := by decide +kernel
theorem dX4_fits_105 : decode cX4_fits 105 = .ok (.ireturn, 1) := by decide +kernel
theorem dX4_fits_106 : decode cX4_fits 106 = .ok (.iload_n 1, 1) := by decide +kernel
theorem dX4_fits_107 : decode cX4_fits 107 = .ok (.aload_n 0, 1) := by decide +kernel
theorem dX4_fits_108 : decode cX4_fits 108 = .ok (.invokevirtual 23, 3) := by decide +kernel
theorem dX4_fits_111 : decode cX4_fits 111 = .ok (.if_icmp .ge 17, 3) := by decide +kernel
theorem dX4_fits_114 : decode cX4_fits 114 = .ok (.aload_n 0, 1) := by decide +kernel
theorem dX4_fits_115 : decode cX4_fits 115 = .ok (.iload_n 1, 1) := by decide +kernel
theorem dX4_fits_116 : decode cX4_fits 116 = .ok (.iconst 5, 1) := by decide +kernel
theorem dX4_fits_117 : decode cX4_fits 117 = .ok (.isub, 1) := by decide +kernel
theorem dX4_fits_118 : decode cX4_fits 118 = .ok (.invokevirtual 47, 3) := by decide +kernel
theorem dX4_fits_121 : decode cX4_fits 121 = .ok (.ifCond .lt 7, 3) := by decide +kernel
theorem dX4_fits_124 : decode cX4_fits 124 = .ok (.iconst 1, 1) := by decide +kernel
theorem dX4_fits_125 : decode cX4_fits 125 = .ok (.goto 4, 3) := by decide +kernel
theorem dX4_fits_128 : decode cX4_fits 128 = .ok (.iconst 0, 1) := by decide +kernel
theorem dX4_fits_129 : decode cX4_fits 129 = .ok (.ireturn, 1) := by decide +kernel
theorem dJ6_bitCount_0f7a4_0 : decode cJ6_bitCount_0f7a4 0 = .ok (.iload_n 0, 1) := by decide +kernel
theorem dJ6_bitCount_0f7a4_1 : decode cJ6_bitCount_0f7a4 1 = .ok (.iload_n 0, 1) := by decide +kernel
theorem dJ6_bitCount_0f7a4_2 : decode cJ6_bitCount_0f7a4 2 = .ok (.iconst 1, 1) := by decide +kernel
theorem dJ6_bitCount_0f7a4_3 : decode cJ6_bitCount_0f7a4 3 = .ok (.iushr, 1) := by decide +kernel
theorem dJ6_bitCount_0f7a4_4 : decode cJ6_bitCount_0f7a4 4 = .ok (.ldc_w 265, 3) := by decide +kernel
theorem dJ6_bitCount_0f7a4_7 : decode cJ6_bitCount_0f7a4 7 = .ok (.iand, 1) := by decide +kernel
theorem dJ6_bitCount_0f7a4_8 : decode cJ6_bitCount_0f7a4 8 = .ok (.isub, 1) := by decide +kernel
theorem dJ6_bitCount_0f7a4_9 : decode cJ6_bitCount_0f7a4 9 = .ok (.istore_n 0, 1) := by decide +kernel
theorem dJ6_bitCount_0f7a4_10 : decode cJ6_bitCount_0f7a4 10 = .ok (.iload_n 0, 1) := by decide +kernel
theorem dJ6_bitCount_0f7a4_11 : decode cJ6_bitCount_0f7a4 11 = .ok (.ldc_w 266, 3) := by decide +kernel
theorem dJ6_bitCount_0f7a4_14 : decode cJ6_bitCount_0f7a4 14 = .ok (.iand, 1) := by decide +kernel
theorem dJ6_bitCount_0f7a4_15 : decode cJ6_bitCount_0f7a4 15 = .ok (.iload_n 0, 1) := by decide +kernel
theorem dJ6_bitCount_0f7a4_16 : decode cJ6_bitCount_0f7a4 16 = .ok (.iconst 2, 1) := by decide +kernel
theorem dJ6_bitCount_0f7a4_17 : decode cJ6_bitCount_0f7a4 17 = .ok (.iushr, 1) := by decide +kernel
theorem dJ6_bitCount_0f7a4_18 : decode cJ6_bitCount_0f7a4 18 = .ok (.ldc_w 266, 3) := by decide +kernel
theorem dJ6_bitCount_0f7a4_21 : decode cJ6_bitCount_0f7a4 21 = .ok (.iand, 1) := by decide +kernel
theorem dJ6_bitCount_0f7a4_22 : decode cJ6_bitCount_0f7a4 22 = .ok (.iadd, 1) := by decide +kernel
theorem dJ6_bitCount_0f7a4_23 : decode cJ6_bitCount_0f7a4 23 = .ok (.istore_n 0, 1) := by decide +kernel
theorem dJ6_bitCount_0f7a4_24 : decode cJ6_bitCount_0f7a4 24 = .ok (.iload_n 0, 1) := by decide +kernel
theorem dJ6_bitCount_0f7a4_25 : decode cJ6_bitCount_0f7a4 25 = .ok (.iload_n 0, 1) := by decide +kernel
theorem dJ6_bitCount_0f7a4_26 : decode cJ6_bitCount_0f7a4 26 = .ok (.iconst 4, 1) := by decide +kernel
theorem dJ6_bitCount_0f7a4_27 : decode cJ6_bitCount_0f7a4 27 = .ok (.iushr, 1) := by decide +kernel
theorem dJ6_bitCount_0f7a4_28 : decode cJ6_bitCount_0f7a4 28 = .ok (.iadd, 1) := by decide +kernel
theorem dJ6_bitCount_0f7a4_29 : decode cJ6_bitCount_0f7a4 29 = .ok (.ldc_w 267, 3) := by decide +kernel
theorem dJ6_bitCount_0f7a4_32 : decode cJ6_bitCount_0f7a4 32 = .ok (.iand, 1) := by decide +kernel
theorem dJ6_bitCount_0f7a4_33 : decode cJ6_bitCount_0f7a4 33 = .ok (.istore_n 0, 1) := by decide +kernel
theorem dJ6_bitCount_0f7a4_34 : decode cJ6_bitCount_0f7a4 34 = .ok (.iload_n 0, 1) := by decide +kernel
theorem dJ6_bitCount_0f7a4_35 : decode cJ6_bitCount_0f7a4 35 = .ok (.iload_n 0, 1) := by decide +kernel
theorem dJ6_bitCount_0f7a4_36 : decode cJ6_bitCount_0f7a4 36 = .ok (.bipush 8, 2) := by decide +kernel
theorem dJ6_bitCount_0f7a4_38 : decode cJ6_bitCount_0f7a4 38 = .ok (.iushr, 1) := by decide +kernel
theorem dJ6_bitCount_0f7a4_39 : decode cJ6_bitCount_0f7a4 39 = .ok (.iadd, 1) := by decide +kernel
theorem dJ6_bitCount_0f7a4_40 : decode cJ6_bitCount_0f7a4 40 = .ok (.istore_n 0, 1) := by decide +kernel
theorem dJ6_bitCount_0f7a4_41 : decode cJ6_bitCount_0f7a4 41 = .ok (.iload_n 0, 1) := by decide +kernel
theorem dJ6_bitCount_0f7a4_42 : decode cJ6_bitCount_0f7a4 42 = .ok (.iload_n 0, 1) := by decide +kernel
theorem dJ6_bitCount_0f7a4_43 : decode cJ6_bitCount_0f7a4 43 = .ok (.bipush 16, 2) := by decide +kernel
theorem dJ6_bitCount_0f7a4_45 : decode cJ6_bitCount_0f7a4 45 = .ok (.iushr, 1) := by decide +kernel
theorem dJ6_bitCount_0f7a4_46 : decode cJ6_bitCount_0f7a4 46 = .ok (.iadd, 1) := by decide +kernel
theorem dJ6_bitCount_0f7a4_47 : decode cJ6_bitCount_0f7a4 47 = .ok (.istore_n 0, 1) := by decide +kernel
theorem dJ6_bitCount_0f7a4_48 : decode cJ6_bitCount_0f7a4 48 = .ok (.iload_n 0, 1) := by decide +kernel
theorem dJ6_bitCount_0f7a4_49 : decode cJ6_bitCount_0f7a4 49 = .ok (.bipush 63, 2) := by decide +kernel
theorem dJ6_bitCount_0f7a4_51 : decode cJ6_bitCount_0f7a4 51 = .ok (.iand, 1) := by decide +kernel
theorem dJ6_bitCount_0f7a4_52 : decode cJ6_bitCount_0f7a4 52 = .ok (.ireturn, 1) := by decide +kernel
theorem dJ13_bitCount_95d88_0 : decode cJ13_bitCount_95d88 0 = .ok (.lload_n 0, 1) := by decide +kernel
theorem dJ13_bitCount_95d88_1 : decode cJ13_bitCount_95d88 1 = .ok (.lload_n 0, 1) := by decide +kernel
theorem dJ13_bitCount_95d88_2 : decode cJ13_bitCount_95d88 2 = .ok (.iconst 1, 1) := by decide +kernel
theorem dJ13_bitCount_95d88_3 : decode cJ13_bitCount_95d88 3 = .ok (.lushr, 1) := by decide +kernel
theorem dJ13_bitCount_95d88_4 : decode cJ13_bitCount_95d88 4 = .ok (.ldc2_w 314, 3) := by decide +kernel
theorem dJ13_bitCount_95d88_7 : decode cJ13_bitCount_95d88 7 = .ok (.land, 1) := by decide +kernel
theorem dJ13_bitCount_95d88_8 : decode cJ13_bitCount_95d88 8 = .ok (.lsub, 1) := by decide +kernel
theorem dJ13_bitCount_95d88_9 : decode cJ13_bitCount_95d88 9 = .ok (.lstore_n 0, 1) := by decide +kernel
theorem dJ13_bitCount_95d88_10 : decode cJ13_bitCount_95d88 10 = .ok (.lload_n 0, 1) := by decide +kernel
theorem dJ13_bitCount_95d88_11 : decode cJ13_bitCount_95d88 11 = .ok (.ldc2_w 316, 3) := by decide +kernel
theorem dJ13_bitCount_95d88_14 : decode cJ13_bitCount_95d88 14 = .ok (.land, 1) := by decide +kernel
theorem dJ13_bitCount_95d88_15 : decode cJ13_bitCount_95d88 15 = .ok (.lload_n 0, 1) := by decide +kernel
theorem dJ13_bitCount_95d88_16 : decode cJ13_bitCount_95d88 16 = .ok (.iconst 2, 1) := by decide +kernel
theorem dJ13_bitCount_95d88_17 : decode cJ13_bitCount_95d88 17 = .ok (.lushr, 1) := by decide +kernel
theorem dJ13_bitCount_95d88_18 : decode cJ13_bitCount_95d88 18 = .ok (.ldc2_w 316, 3) := by decide +kernel
theorem dJ13_bitCount_95d88_21 : decode cJ13_bitCount_95d88 21 = .ok (.land, 1) := by decide +kernel
theorem dJ13_bitCount_95d88_22 : decode cJ13_bitCount_95d88 22 = .ok (.ladd, 1) := by decide +kernel
theorem dJ13_bitCount_95d88_23 : decode cJ13_bitCount_95d88 23 = .ok (.lstore_n 0, 1) := by decide +kernel
theorem dJ13_bitCount_95d88_24 : decode cJ13_bitCount_95d88 24 = .ok (.lload_n 0, 1) := by decide +kernel
theorem dJ13_bitCount_95d88_25 : decode cJ13_bitCount_95d88 25 = .ok (.lload_n 0, 1) := by decide +kernel
theorem dJ13_bitCount_95d88_26 : decode cJ13_bitCount_95d88 26 = .ok (.iconst 4, 1) := by decide +kernel
theorem dJ13_bitCount_95d88_27 : decode cJ13_bitCount_95d88 27 = .ok (.lushr, 1) := by decide +kernel
theorem dJ13_bitCount_95d88_28 : decode cJ13_bitCount_95d88 28 = .ok (.ladd, 1) := by decide +kernel
theorem dJ13_bitCount_95d88_29 : decode cJ13_bitCount_95d88 29 = .ok (.ldc2_w 318, 3) := by decide +kernel
theorem dJ13_bitCount_95d88_32 : decode cJ13_bitCount_95d88 32 = .ok (.land, 1) := by decide +kernel
theorem dJ13_bitCount_95d88_33 : decode cJ13_bitCount_95d88 33 = .ok (.lstore_n 0, 1) := by decide +kernel
theorem dJ13_bitCount_95d88_34 : decode cJ13_bitCount_95d88 34 = .ok (.lload_n 0, 1) := by decide +kernel
theorem dJ13_bitCount_95d88_35 : decode cJ13_bitCount_95d88 35 = .ok (.lload_n 0, 1) := by decide +kernel
theorem dJ13_bitCount_95d88_36 : decode cJ13_bitCount_95d88 36 = .ok (.bipush 8, 2) := by decide +kernel
theorem dJ13_bitCount_95d88_38 : decode cJ13_bitCount_95d88 38 = .ok (.lushr, 1) := by decide +kernel
theorem dJ13_bitCount_95d88_39 : decode cJ13_bitCount_95d88 39 = .ok (.ladd, 1) := by decide +kernel
theorem dJ13_bitCount_95d88_40 : decode cJ13_bitCount_95d88 40 = .ok (.lstore_n 0, 1) := by decide +kernel
theorem dJ13_bitCount_95d88_41 : decode cJ13_bitCount_95d88 41 = .ok (.lload_n 0, 1) := by decide +kernel
theorem dJ13_bitCount_95d88_42 : decode cJ13_bitCount_95d88 42 = .ok (.lload_n 0, 1) := by decide +kernel
theorem dJ13_bitCount_95d88_43 : decode cJ13_bitCount_95d88 43 = .ok (.bipush 16, 2) := by decide +kernel
theorem dJ13_bitCount_95d88_45 : decode cJ13_bitCount_95d88 45 = .ok (.lushr, 1) := by decide +kernel
theorem dJ13_bitCount_95d88_46 : decode cJ13_bitCount_95d88 46 = .ok (.ladd, 1) := by decide +kernel
theorem dJ13_bitCount_95d88_47 : decode cJ13_bitCount_95d88 47 = .ok (.lstore_n 0, 1) := by decide +kernel
theorem dJ13_bitCount_95d88_48 : decode cJ13_bitCount_95d88 48 = .ok (.lload_n 0, 1) := by decide +kernel
theorem dJ13_bitCount_95d88_49 : decode cJ13_bitCount_95d88 49 = .ok (.lload_n 0, 1) := by decide +kernel
theorem dJ13_bitCount_95d88_50 : decode cJ13_bitCount_95d88 50 = .ok (.bipush 32, 2) := by decide +kernel
theorem dJ13_bitCount_95d88_52 : decode cJ13_bitCount_95d88 52 = .ok (.lushr, 1) := by decide +kernel
theorem dJ13_bitCount_95d88_53 : decode cJ13_bitCount_95d88 53 = .ok (.ladd, 1) := by decide +kernel
theorem dJ13_bitCount_95d88_54 : decode cJ13_bitCount_95d88 54 = .ok (.lstore_n 0, 1) := by decide +kernel
theorem dJ13_bitCount_95d88_55 : decode cJ13_bitCount_95d88 55 = .ok (.lload_n 0, 1) := by decide +kernel
theorem dJ13_bitCount_95d88_56 : decode cJ13_bitCount_95d88 56 = .ok (.l2i, 1) := by decide +kernel
theorem dJ13_bitCount_95d88_57 : decode cJ13_bitCount_95d88 57 = .ok (.bipush 127, 2) := by decide +kernel
theorem dJ13_bitCount_95d88_59 : decode cJ13_bitCount_95d88 59 = .ok (.iand, 1) := by decide +kernel
theorem dJ13_bitCount_95d88_60 : decode cJ13_bitCount_95d88 60 = .ok (.ireturn, 1) := by decide +kernel
theorem dJ0_length_8abf5_0 : decode cJ0_length_8abf5 0 = .ok (.aload_n 0, 1) := by decide +kernel
theorem dJ0_length_8abf5_1 : decode cJ0_length_8abf5 1 = .ok (.getfield 9, 3) := by decide +kernel
theorem dJ0_length_8abf5_4 : decode cJ0_length_8abf5 4 = .ok (.arraylength, 1) := by decide +kernel
theorem dJ0_length_8abf5_5 : decode cJ0_length_8abf5 5 = .ok (.aload_n 0, 1) := by decide +kernel
theorem dJ0_length_8abf5_6 : decode cJ0_length_8abf5 6 = .ok (.invokevirtual 335, 3) := by decide +kernel
theorem dJ0_length_8abf5_9 : decode cJ0_length_8abf5 9 = .ok (.ishr, 1) := by decide +kernel
theorem dJ0_length_8abf5_10 : decode cJ0_length_8abf5 10 = .ok (.ireturn, 1) := by decide +kernel
theorem dJ0_charAt_5068e_0 : decode cJ0_charAt_5068e 0 = .ok (.aload_n 0, 1) := by decide +kernel
theorem dJ0_charAt_5068e_1 : decode cJ0_charAt_5068e 1 = .ok (.invokevirtual 492, 3) := by decide +kernel
theorem dJ0_charAt_5068e_4 : decode cJ0_charAt_5068e 4 = .ok (.ifCond .eq 12, 3) := by decide +kernel
theorem dJ0_charAt_5068e_7 : decode cJ0_charAt_5068e 7 = .ok (.aload_n 0, 1) := by decide +kernel
theorem dJ0_charAt_5068e_8 : decode cJ0_charAt_5068e 8 = .ok (.getfield 9, 3) := by decide +kernel
theorem dJ0_charAt_5068e_11 : decode cJ0_charAt_5068e 11 = .ok (.iload_n 1, 1) := by decide +kernel
theorem dJ0_charAt_5068e_12 : decode cJ0_charAt_5068e 12 = .ok (.invokestatic 495, 3) := by decide +kernel
theorem dJ0_charAt_5068e_15 : decode cJ0_charAt_5068e 15 = .ok (.ireturn, 1) := by decide +kernel
theorem dJ0_charAt_5068e_16 : decode cJ0_charAt_5068e 16 = .ok (.aload_n 0, 1) := by decide +kernel
theorem dJ0_charAt_5068e_17 : decode cJ0_charAt_5068e 17 = .ok (.getfield 9, 3) := by decide +kernel
theorem dJ0_charAt_5068e_20 : decode cJ0_charAt_5068e 20 = .ok (.iload_n 1, 1) := by decide +kernel
theorem dJ0_charAt_5068e_21 : decode cJ0_charAt_5068e 21 = .ok (.invokestatic 498, 3) := by decide +kernel
theorem dJ0_charAt_5068e_24 : decode cJ0_charAt_5068e 24 = .ok (.ireturn, 1) := by decide +kernel
theorem dJ0_indexOf_0f7a4_0 : decode cJ0_indexOf_0f7a4 0 = .ok (.aload_n 0, 1) := by decide +kernel
theorem dJ0_indexOf_0f7a4_1 : decode cJ0_indexOf_0f7a4 1 = .ok (.iload_n 1, 1) := by decide +kernel
theorem dJ0_indexOf_0f7a4_2 : decode cJ0_indexOf_0f7a4 2 = .ok (.iconst 0, 1) := by decide +kernel
theorem dJ0_indexOf_0f7a4_3 : decode cJ0_indexOf_0f7a4 3 = .ok (.invokevirtual 633, 3) := by decide +kernel
theorem dJ0_indexOf_0f7a4_6 : decode cJ0_indexOf_0f7a4 6 = .ok (.ireturn, 1) := by decide +kernel
theorem dJ0_indexOf_7cf53_0 : decode cJ0_indexOf_7cf53 0 = .ok (.aload_n 0, 1) := by decide +kernel
theorem dJ0_indexOf_7cf53_1 : decode cJ0_indexOf_7cf53 1 = .ok (.invokevirtual 492, 3) := by decide +kernel
theorem dJ0_indexOf_7cf53_4 : decode cJ0_indexOf_7cf53 4 = .ok (.ifCond .eq 19, 3) := by decide +kernel
theorem dJ0_indexOf_7cf53_7 : decode cJ0_indexOf_7cf53 7 = .ok (.aload_n 0, 1) := by decide +kernel
theorem dJ0_indexOf_7cf53_8 : decode cJ0_indexOf_7cf53 8 = .ok (.getfield 9, 3) := by decide +kernel
theorem dJ0_indexOf_7cf53_11 : decode cJ0_indexOf_7cf53 11 = .ok (.iload_n 1, 1) := by decide +kernel
theorem dJ0_indexOf_7cf53_12 : decode cJ0_indexOf_7cf53 12 = .ok (.iload_n 2, 1) := by decide +kernel
theorem dJ0_indexOf_7cf53_13 : decode cJ0_indexOf_7cf53 13 = .ok (.aload_n 0, 1) := by decide +kernel
theorem dJ0_indexOf_7cf53_14 : decode cJ0_indexOf_7cf53 14 = .ok (.invokevirtual 505, 3) := by decide +kernel
theorem dJ0_indexOf_7cf53_17 : decode cJ0_indexOf_7cf53 17 = .ok (.invokestatic 637, 3) := by decide +kernel
theorem dJ0_indexOf_7cf53_20 : decode cJ0_indexOf_7cf53 20 = .ok (.goto 16, 3) := by decide +kernel
theorem dJ0_indexOf_7cf53_23 : decode cJ0_indexOf_7cf53 23 = .ok (.aload_n 0, 1) := by decide +kernel
theorem dJ0_indexOf_7cf53_24 : decode cJ0_indexOf_7cf53 24 = .ok (.getfield 9, 3) := by decide +kernel
theorem dJ0_indexOf_7cf53_27 : decode cJ0_indexOf_7cf53 27 = .ok (.iload_n 1, 1) := by decide +kernel
theorem dJ0_indexOf_7cf53_28 : decode cJ0_indexOf_7cf53 28 = .ok (.iload_n 2, 1) := by decide +kernel
theorem dJ0_indexOf_7cf53_29 : decode cJ0_indexOf_7cf53 29 = .ok (.aload_n 0, 1) := by decide +kernel
theorem dJ0_indexOf_7cf53_30 : decode cJ0_indexOf_7cf53 30 = .ok (.invokevirtual 505, 3) := by decide +kernel
theorem dJ0_indexOf_7cf53_33 : decode cJ0_indexOf_7cf53 33 = .ok (.invokestatic 640, 3) := by decide +kernel
theorem dJ0_indexOf_7cf53_36 : decode cJ0_indexOf_7cf53 36 = .ok (.ireturn, 1) := by decide +kernel
theorem dJ0_coder_7d493_0 : decode cJ0_coder_7d493 0 = .ok (.getstatic 38, 3) := by decide +kernel
theorem dJ0_coder_7d493_3 : decode cJ0_coder_7d493 3 = .ok (.ifCond .eq 10, 3) := by decide +kernel
theorem dJ0_coder_7d493_6 : decode cJ0_coder_7d493 6 = .ok (.aload_n 0, 1) := by decide +kernel
theorem dJ0_coder_7d493_7 : decode cJ0_coder_7d493 7 = .ok (.getfield 15, 3) := by decide +kernel
theorem dJ0_coder_7d493_10 : decode cJ0_coder_7d493 10 = .ok (.goto 4, 3) := by decide +kernel
theorem dJ0_coder_7d493_13 : decode cJ0_coder_7d493 13 = .ok (.iconst 1, 1) := by decide +kernel
theorem dJ0_coder_7d493_14 : decode cJ0_coder_7d493 14 = .ok (.ireturn, 1) := by decide +kernel
theorem dJ0_isLatin1_aae02_0 : decode cJ0_isLatin1_aae02 0 = .ok (.getstatic 38, 3) := by decide +kernel
theorem dJ0_isLatin1_aae02_3 : decode cJ0_isLatin1_aae02 3 = .ok (.ifCond .eq 14, 3) := by decide +kernel
theorem dJ0_isLatin1_aae02_6 : decode cJ0_isLatin1_aae02 6 = .ok (.aload_n 0, 1) := by decide +kernel
theorem dJ0_isLatin1_aae02_7 : decode cJ0_isLatin1_aae02 7 = .ok (.getfield 15, 3) := by decide +kernel
theorem dJ0_isLatin1_aae02_10 : decode cJ0_isLatin1_aae02 10 = .ok (.ifCond .ne 7, 3) := by decide +kernel
theorem dJ0_isLatin1_aae02_13 : decode cJ0_isLatin1_aae02 13 = .ok (.iconst 1, 1) := by decide +kernel
theorem dJ0_isLatin1_aae02_14 : decode cJ0_isLatin1_aae02 14 = .ok (.goto 4, 3) := by decide +kernel
theorem dJ0_isLatin1_aae02_17 : decode cJ0_isLatin1_aae02 17 = .ok (.iconst 0, 1) := by decide +kernel
theorem dJ0_isLatin1_aae02_18 : decode cJ0_isLatin1_aae02 18 = .ok (.ireturn, 1) := by decide +kernel
theorem dJ0_checkIndex_df160_0 : decode cJ0_checkIndex_df160 0 = .ok (.iload_n 0, 1) := by decide +kernel
theorem dJ0_checkIndex_df160_1 : decode cJ0_checkIndex_df160 1 = .ok (.iload_n 1, 1) := by decide +kernel
theorem dJ0_checkIndex_df160_2 : decode cJ0_checkIndex_df160 2 = .ok (.getstatic 1053, 3) := by decide +kernel
theorem dJ0_checkIndex_df160_5 : decode cJ0_checkIndex_df160 5 = .ok (.invokestatic 1059, 3) := by decide +kernel
theorem dJ0_checkIndex_df160_8 : decode cJ0_checkIndex_df160 8 = .ok (.pop, 1) := by decide +kernel
theorem dJ0_checkIndex_df160_9 : decode cJ0_checkIndex_df160 9 = .ok (.return_, 1) := by decide +kernel
theorem dJ0_checkBoundsBeginEnd_23922_0 : decode cJ0_checkBoundsBeginEnd_23922 0 = .ok (.iload_n 0, 1) := by decide +kernel
theorem dJ0_checkBoundsBeginEnd_23922_1 : decode cJ0_checkBoundsBeginEnd_23922 1 = .ok (.iload_n 1, 1) := by decide +kernel
theorem dJ0_checkBoundsBeginEnd_23922_2 : decode cJ0_checkBoundsBeginEnd_23922 2 = .ok (.iload_n 2, 1) := by decide +kernel
theorem dJ0_checkBoundsBeginEnd_23922_3 : decode cJ0_checkBoundsBeginEnd_23922 3 = .ok (.getstatic 1053, 3) := by decide +kernel
theorem dJ0_checkBoundsBeginEnd_23922_6 : decode cJ0_checkBoundsBeginEnd_23922 6 = .ok (.invokestatic 1062, 3) := by decide +kernel
theorem dJ0_checkBoundsBeginEnd_23922_9 : decode cJ0_checkBoundsBeginEnd_23922 9 = .ok (.pop, 1) := by decide +kernel
theorem dJ0_checkBoundsBeginEnd_23922_10 : decode cJ0_checkBoundsBeginEnd_23922 10 = .ok (.return_, 1) := by decide +kernel
theorem dJ1_charAt_3b067_0 : decode cJ1_charAt_3b067 0 = .ok (.iload_n 1, 1) := by decide +kernel
theorem dJ1_charAt_3b067_1 : decode cJ1_charAt_3b067 1 = .ok (.aload_n 0, 1) := by decide +kernel
theorem dJ1_charAt_3b067_2 : decode cJ1_charAt_3b067 2 = .ok (.arraylength, 1) := by decide +kernel
theorem dJ1_charAt_3b067_3 : decode cJ1_charAt_3b067 3 = .ok (.invokestatic 9, 3) := by decide +kernel
theorem dJ1_charAt_3b067_6 : decode cJ1_charAt_3b067 6 = .ok (.aload_n 0, 1) := by decide +kernel
theorem dJ1_charAt_3b067_7 : decode cJ1_charAt_3b067 7 = .ok (.iload_n 1, 1) := by decide +kernel
theorem dJ1_charAt_3b067_8 : decode cJ1_charAt_3b067 8 = .ok (.baload, 1) := by decide +kernel
theorem dJ1_charAt_3b067_9 : decode cJ1_charAt_3b067 9 = .ok (.sipush 255, 3) := by decide +kernel
theorem dJ1_charAt_3b067_12 : decode cJ1_charAt_3b067 12 = .ok (.iand, 1) := by decide +kernel
theorem dJ1_charAt_3b067_13 : decode cJ1_charAt_3b067 13 = .ok (.i2c, 1) := by decide +kernel
theorem dJ1_charAt_3b067_14 : decode cJ1_charAt_3b067 14 = .ok (.ireturn, 1) := by decide +kernel
theorem dJ1_canEncode_9a6ad_0 : decode cJ1_canEncode_9a6ad 0 = .ok (.iload_n 0, 1) := by decide +kernel
theorem dJ1_canEncode_9a6ad_1 : decode cJ1_canEncode_9a6ad 1 = .ok (.ifCond .lt 14, 3) := by decide +kernel
theorem dJ1_canEncode_9a6ad_4 : decode cJ1_canEncode_9a6ad 4 = .ok (.iload_n 0, 1) := by decide +kernel
theorem dJ1_canEncode_9a6ad_5 : decode cJ1_canEncode_9a6ad 5 = .ok (.sipush 255, 3) := by decide +kernel
theorem dJ1_canEncode_9a6ad_8 : decode cJ1_canEncode_9a6ad 8 = .ok (.if_icmp .gt 7, 3) := by decide +kernel
theorem dJ1_canEncode_9a6ad_11 : decode cJ1_canEncode_9a6ad 11 = .ok (.iconst 1, 1) := by decide +kernel
theorem dJ1_canEncode_9a6ad_12 : decode cJ1_canEncode_9a6ad 12 = .ok (.goto 4, 3) := by decide +kernel
theorem dJ1_canEncode_9a6ad_15 : decode cJ1_canEncode_9a6ad 15 = .ok (.iconst 0, 1) := by decide +kernel
theorem dJ1_canEncode_9a6ad_16 : decode cJ1_canEncode_9a6ad 16 = .ok (.ireturn, 1) := by decide +kernel
theorem dJ1_indexOf_4cfef_0 : decode cJ1_indexOf_4cfef 0 = .ok (.iload_n 1, 1) := by decide +kernel
theorem dJ1_indexOf_4cfef_1 : decode cJ1_indexOf_4cfef 1 = .ok (.invokestatic 88, 3) := by decide +kernel
theorem dJ1_indexOf_4cfef_4 : decode cJ1_indexOf_4cfef 4 = .ok (.ifCond .ne 5, 3) := by decide +kernel
theorem dJ1_indexOf_4cfef_7 : decode cJ1_indexOf_4cfef 7 = .ok (.iconst (-1), 1) := by decide +kernel
theorem dJ1_indexOf_4cfef_8 : decode cJ1_indexOf_4cfef 8 = .ok (.ireturn, 1) := by decide +kernel
theorem dJ1_indexOf_4cfef_9 : decode cJ1_indexOf_4cfef 9 = .ok (.iload_n 2, 1) := by decide +kernel
theorem dJ1_indexOf_4cfef_10 : decode cJ1_indexOf_4cfef 10 = .ok (.iconst 0, 1) := by decide +kernel
theorem dJ1_indexOf_4cfef_11 : decode cJ1_indexOf_4cfef 11 = .ok (.invokestatic 92, 3) := by decide +kernel
theorem dJ1_indexOf_4cfef_14 : decode cJ1_indexOf_4cfef 14 = .ok (.istore_n 2, 1) := by decide +kernel
theorem dJ1_indexOf_4cfef_15 : decode cJ1_indexOf_4cfef 15 = .ok (.iload_n 3, 1) := by decide +kernel
theorem dJ1_indexOf_4cfef_16 : decode cJ1_indexOf_4cfef 16 = .ok (.aload_n 0, 1) := by decide +kernel
theorem dJ1_indexOf_4cfef_17 : decode cJ1_indexOf_4cfef 17 = .ok (.arraylength, 1) := by decide +kernel
theorem dJ1_indexOf_4cfef_18 : decode cJ1_indexOf_4cfef 18 = .ok (.invokestatic 38, 3) := by decide +kernel
theorem dJ1_indexOf_4cfef_21 : decode cJ1_indexOf_4cfef 21 = .ok (.istore_n 3, 1) := by decide +kernel
theorem dJ1_indexOf_4cfef_22 : decode cJ1_indexOf_4cfef 22 = .ok (.iload_n 2, 1) := by decide +kernel
theorem dJ1_indexOf_4cfef_23 : decode cJ1_indexOf_4cfef 23 = .ok (.iload_n 3, 1) := by decide +kernel
theorem dJ1_indexOf_4cfef_24 : decode cJ1_indexOf_4cfef 24 = .ok (.if_icmp .lt 5, 3) := by decide +kernel
theorem dJ1_indexOf_4cfef_27 : decode cJ1_indexOf_4cfef 27 = .ok (.iconst (-1), 1) := by decide +kernel
theorem dJ1_indexOf_4cfef_28 : decode cJ1_indexOf_4cfef 28 = .ok (.ireturn, 1) := by decide +kernel
theorem dJ1_indexOf_4cfef_29 : decode cJ1_indexOf_4cfef 29 = .ok (.aload_n 0, 1) := by decide +kernel
theorem dJ1_indexOf_4cfef_30 : decode cJ1_indexOf_4cfef 30 = .ok (.iload_n 1, 1) := by decide +kernel
theorem dJ1_indexOf_4cfef_31 : decode cJ1_indexOf_4cfef 31 = .ok (.iload_n 2, 1) := by decide +kernel
theorem dJ1_indexOf_4cfef_32 : decode cJ1_indexOf_4cfef 32 = .ok (.iload_n 3, 1) := by decide +kernel
theorem dJ1_indexOf_4cfef_33 : decode cJ1_indexOf_4cfef 33 = .ok (.invokestatic 95, 3) := by decide +kernel
theorem dJ1_indexOf_4cfef_36 : decode cJ1_indexOf_4cfef 36 = .ok (.ireturn, 1) := by decide +kernel
theorem dJ1_indexOfChar_4cfef_0 : decode cJ1_indexOfChar_4cfef 0 = .ok (.iload_n 1, 1) := by decide +kernel
theorem dJ1_indexOfChar_4cfef_1 : decode cJ1_indexOfChar_4cfef 1 = .ok (.i2b, 1) := by decide +kernel
theorem dJ1_indexOfChar_4cfef_2 : decode cJ1_indexOfChar_4cfef 2 = .ok (.istore 4, 2) := by decide +kernel
theorem dJ1_indexOfChar_4cfef_4 : decode cJ1_indexOfChar_4cfef 4 = .ok (.iload_n 2, 1) := by decide +kernel
theorem dJ1_indexOfChar_4cfef_5 : decode cJ1_indexOfChar_4cfef 5 = .ok (.istore 5, 2) := by decide +kernel
theorem dJ1_indexOfChar_4cfef_7 : decode cJ1_indexOfChar_4cfef 7 = .ok (.iload 5, 2) := by decide +kernel
theorem dJ1_indexOfChar_4cfef_9 : decode cJ1_indexOfChar_4cfef 9 = .ok (.iload_n 3, 1) := by decide +kernel
theorem dJ1_indexOfChar_4cfef_10 : decode cJ1_indexOfChar_4cfef 10 = .ok (.if_icmp .ge 21, 3) := by decide +kernel
theorem dJ1_indexOfChar_4cfef_13 : decode cJ1_indexOfChar_4cfef 13 = .ok (.aload_n 0, 1) := by decide +kernel
theorem dJ1_indexOfChar_4cfef_14 : decode cJ1_indexOfChar_4cfef 14 = .ok (.iload 5, 2) := by decide +kernel
theorem dJ1_indexOfChar_4cfef_16 : decode cJ1_indexOfChar_4cfef 16 = .ok (.baload, 1) := by decide +kernel
theorem dJ1_indexOfChar_4cfef_17 : decode cJ1_indexOfChar_4cfef 17 = .ok (.iload 4, 2) := by decide +kernel
theorem dJ1_indexOfChar_4cfef_19 : decode cJ1_indexOfChar_4cfef 19 = .ok (.if_icmp .ne 6, 3) := by decide +kernel
theorem dJ1_indexOfChar_4cfef_22 : decode cJ1_indexOfChar_4cfef 22 = .ok (.iload 5, 2) := by decide +kernel
theorem dJ1_indexOfChar_4cfef_24 : decode cJ1_indexOfChar_4cfef 24 = .ok (.ireturn, 1) := by decide +kernel
theorem dJ1_indexOfChar_4cfef_25 : decode cJ1_indexOfChar_4cfef 25 = .ok (.iinc 5 1, 3) := by decide +kernel
theorem dJ1_indexOfChar_4cfef_28 : decode cJ1_indexOfChar_4cfef 28 = .ok (.goto (-21), 3) := by decide +kernel
theorem dJ1_indexOfChar_4cfef_31 : decode cJ1_indexOfChar_4cfef 31 = .ok (.iconst (-1), 1) := by decide +kernel
theorem dJ1_indexOfChar_4cfef_32 : decode cJ1_indexOfChar_4cfef 32 = .ok (.ireturn, 1) := by decide +kernel
theorem dJ3_checkIndex_8e157_0 : decode cJ3_checkIndex_8e157 0 = .ok (.iload_n 0, 1) := by decide +kernel
theorem dJ3_checkIndex_8e157_1 : decode cJ3_checkIndex_8e157 1 = .ok (.ifCond .lt 8, 3) := by decide +kernel
theorem dJ3_checkIndex_8e157_4 : decode cJ3_checkIndex_8e157 4 = .ok (.iload_n 0, 1) := by decide +kernel
theorem dJ3_checkIndex_8e157_5 : decode cJ3_checkIndex_8e157 5 = .ok (.iload_n 1, 1) := by decide +kernel
theorem dJ3_checkIndex_8e157_6 : decode cJ3_checkIndex_8e157 6 = .ok (.if_icmp .lt 10, 3) := by decide +kernel
theorem dJ3_checkIndex_8e157_9 : decode cJ3_checkIndex_8e157 9 = .ok (.aload_n 2, 1) := by decide +kernel
theorem dJ3_checkIndex_8e157_10 : decode cJ3_checkIndex_8e157 10 = .ok (.iload_n 0, 1) := by decide +kernel
theorem dJ3_checkIndex_8e157_11 : decode cJ3_checkIndex_8e157 11 = .ok (.iload_n 1, 1) := by decide +kernel
theorem dJ3_checkIndex_8e157_12 : decode cJ3_checkIndex_8e157 12 = .ok (.invokestatic 95, 3) := by decide +kernel
theorem dJ3_checkIndex_8e157_15 : decode cJ3_checkIndex_8e157 15 = .ok (.athrow, 1) := by decide +kernel
theorem dJ3_checkIndex_8e157_16 : decode cJ3_checkIndex_8e157 16 = .ok (.iload_n 0, 1) := by decide +kernel
theorem dJ3_checkIndex_8e157_17 : decode cJ3_checkIndex_8e157 17 = .ok (.ireturn, 1) := by decide +kernel
theorem dJ3_checkFromToIndex_8c36e_0 : decode cJ3_checkFromToIndex_8c36e 0 = .ok (.iload_n 0, 1) := by decide +kernel
theorem dJ3_checkFromToIndex_8c36e_1 : decode cJ3_checkFromToIndex_8c36e 1 = .ok (.ifCond .lt 13, 3) := by decide +kernel
theorem dJ3_checkFromToIndex_8c36e_4 : decode cJ3_checkFromToIndex_8c36e 4 = .ok (.iload_n 0, 1) := by decide +kernel
theorem dJ3_checkFromToIndex_8c36e_5 : decode cJ3_checkFromToIndex_8c36e 5 = .ok (.iload_n 1, 1) := by decide +kernel
theorem dJ3_checkFromToIndex_8c36e_6 : decode cJ3_checkFromToIndex_8c36e 6 = .ok (.if_icmp .gt 8, 3) := by decide +kernel
theorem dJ3_checkFromToIndex_8c36e_9 : decode cJ3_checkFromToIndex_8c36e 9 = .ok (.iload_n 1, 1) := by decide +kernel
theorem dJ3_checkFromToIndex_8c36e_10 : decode cJ3_checkFromToIndex_8c36e 10 = .ok (.iload_n 2, 1) := by decide +kernel
theorem dJ3_checkFromToIndex_8c36e_11 : decode cJ3_checkFromToIndex_8c36e 11 = .ok (.if_icmp .le 11, 3) := by decide +kernel
theorem dJ3_checkFromToIndex_8c36e_14 : decode cJ3_checkFromToIndex_8c36e 14 = .ok (.aload_n 3, 1) := by decide +kernel
theorem dJ3_checkFromToIndex_8c36e_15 : decode cJ3_checkFromToIndex_8c36e 15 = .ok (.iload_n 0, 1) := by decide +kernel
theorem dJ3_checkFromToIndex_8c36e_16 : decode cJ3_checkFromToIndex_8c36e 16 = .ok (.iload_n 1, 1) := by decide +kernel
theorem dJ3_checkFromToIndex_8c36e_17 : decode cJ3_checkFromToIndex_8c36e 17 = .ok (.iload_n 2, 1) := by decide +kernel
theorem dJ3_checkFromToIndex_8c36e_18 : decode cJ3_checkFromToIndex_8c36e 18 = .ok (.invokestatic 99, 3) := by decide +kernel
theorem dJ3_checkFromToIndex_8c36e_21 : decode cJ3_checkFromToIndex_8c36e 21 = .ok (.athrow, 1) := by decide +kernel
theorem dJ3_checkFromToIndex_8c36e_22 : decode cJ3_checkFromToIndex_8c36e 22 = .ok (.iload_n 0, 1) := by decide +kernel
theorem dJ3_checkFromToIndex_8c36e_23 : decode cJ3_checkFromToIndex_8c36e 23 = .ok (.ireturn, 1) := by decide +kernel
end
section
theorem dX5_init_0 : decode cX5_init 0 = .ok (.aload_n 0, 1) := by decide +kernel
theorem dX5_init_1 : decode cX5_init 1 = .ok (.invokespecial 3, 3) := by decide +kernel
theorem dX5_init_4 : decode cX5_init 4 = .ok (.aload_n 0, 1) := by decide +kernel
theorem dX5_init_5 : decode cX5_init 5 = .ok (.new 9, 3) := by decide +kernel
theorem dX5_init_8 : decode cX5_init 8 = .ok (.dup, 1) := by decide +kernel
theorem dX5_init_9 : decode cX5_init 9 = .ok (.invokespecial 11, 3) := by decide +kernel
theorem dX5_init_12 : decode cX5_init 12 = .ok (.putfield 12, 3) := by decide +kernel
theorem dX5_init_15 : decode cX5_init 15 = .ok (.aload_n 0, 1) := by decide +kernel
theorem dX5_init_16 : decode cX5_init 16 = .ok (.new 16, 3) := by decide +kernel
theorem dX5_init_19 : decode cX5_init 19 = .ok (.dup, 1) := by decide +kernel
theorem dX5_init_20 : decode cX5_init 20 = .ok (.invokespecial 18, 3) := by decide +kernel
theorem dX5_init_23 : decode cX5_init 23 = .ok (.putfield 19, 3) := by decide +kernel
theorem dX5_init_26 : decode cX5_init 26 = .ok (.aload_n 0, 1) := by decide +kernel
theorem dX5_init_27 : decode cX5_init 27 = .ok (.new 23, 3) := by decide +kernel
theorem dX5_init_30 : decode cX5_init 30 = .ok (.dup, 1) := by decide +kernel
theorem dX5_init_31 : decode cX5_init 31 = .ok (.new 23, 3) := by decide +kernel
theorem dX5_init_34 : decode cX5_init 34 = .ok (.dup, 1) := by decide +kernel
theorem dX5_init_35 : decode cX5_init 35 = .ok (.new 23, 3) := by decide +kernel
theorem dX5_init_38 : decode cX5_init 38 = .ok (.dup, 1) := by decide +kernel
theorem dX5_init_39 : decode cX5_init 39 = .ok (.aconst_null, 1) := by decide +kernel
theorem dX5_init_40 : decode cX5_init 40 = .ok (.invokespecial 25, 3) := by decide +kernel
theorem dX5_init_43 : decode cX5_init 43 = .ok (.invokespecial 25, 3) := by decide +kernel
theorem dX5_init_46 : decode cX5_init 46 = .ok (.invokespecial 25, 3) := by decide +kernel
theorem dX5_init_49 : decode cX5_init 49 = .ok (.putfield 28, 3) := by decide +kernel
theorem dX5_init_52 : decode cX5_init 52 = .ok (.aload_n 0, 1) := by decide +kernel
theorem dX5_init_53 : decode cX5_init 53 = .ok (.new 23, 3) := by decide +kernel
theorem dX5_init_56 : decode cX5_init 56 = .ok (.dup, 1) := by decide +kernel
theorem dX5_init_57 : decode cX5_init 57 = .ok (.aload_n 0, 1) := by decide +kernel
theorem dX5_init_58 : decode cX5_init 58 = .ok (.getfield 28, 3) := by decide +kernel
theorem dX5_init_61 : decode cX5_init 61 = .ok (.invokespecial 25, 3) := by decide +kernel
theorem dX5_init_64 : decode cX5_init 64 = .ok (.putfield 32, 3) := by decide +kernel
theorem dX5_init_67 : decode cX5_init 67 = .ok (.aload_n 0, 1) := by decide +kernel
theorem dX5_init_68 : decode cX5_init 68 = .ok (.new 23, 3) := by decide +kernel
theorem dX5_init_71 : decode cX5_init 71 = .ok (.dup, 1) := by decide +kernel
theorem dX5_init_72 : decode cX5_init 72 = .ok (.aconst_null, 1) := by decide +kernel
theorem dX5_init_73 : decode cX5_init 73 = .ok (.invokespecial 25, 3) := by decide +kernel
theorem dX5_init_76 : decode cX5_init 76 = .ok (.putfield 35, 3) := by decide +kernel
theorem dX5_init_79 : decode cX5_init 79 = .ok (.aload_n 0, 1) := by decide +kernel
theorem dX5_init_80 : decode cX5_init 80 = .ok (.new 38, 3) := by decide +kernel
theorem dX5_init_83 : decode cX5_init 83 = .ok (.dup, 1) := by decide +kernel
theorem dX5_init_84 : decode cX5_init 84 = .ok (.invokespecial 40, 3) := by decide +kernel
theorem dX5_init_87 : decode cX5_init 87 = .ok (.putfield 41, 3) := by decide +kernel
theorem dX5_init_90 : decode cX5_init 90 = .ok (.aload_n 0, 1) := by decide +kernel
theorem dX5_init_91 : decode cX5_init 91 = .ok (.new 45, 3) := by decide +kernel
theorem dX5_init_94 : decode cX5_init 94 = .ok (.dup, 1) := by decide +kernel
theorem dX5_init_95 : decode cX5_init 95 = .ok (.iconst 2, 1) := by decide +kernel
theorem dX5_init_96 : decode cX5_init 96 = .ok (.invokespecial 47, 3) := by decide +kernel
theorem dX5_init_99 : decode cX5_init 99 = .ok (.putfield 50, 3) := by decide +kernel
theorem dX5_init_102 : decode cX5_init 102 = .ok (.aload_n 0, 1) := by decide +kernel
theorem dX5_init_103 : decode cX5_init 103 = .ok (.lconst 0, 1) := by decide +kernel
theorem dX5_init_104 : decode cX5_init 104 = .ok (.putfield 54, 3) := by decide +kernel
theorem dX5_init_107 : decode cX5_init 107 = .ok (.aload_n 0, 1) := by decide +kernel
theorem dX5_init_108 : decode cX5_init 108 = .ok (.getfield 19, 3) := by decide +kernel
theorem dX5_init_111 : decode cX5_init 111 = .ok (.iconst 1, 1) := by decide +kernel
theorem dX5_init_112 : decode cX5_init 112 = .ok (.iconst 1, 1) := by decide +kernel
theorem dX5_init_113 : decode cX5_init 113 = .ok (.iconst 0, 1) := by decide +kernel
theorem dX5_init_114 : decode cX5_init 114 = .ok (.invokevirtual 58, 3) := by decide +kernel
theorem dX5_init_117 : decode cX5_init 117 = .ok (.return_, 1) := by decide +kernel
theorem dX5_write_0 : decode cX5_write 0 = .ok (.iload_n 1, 1) := by decide +kernel
theorem dX5_write_1 : decode cX5_write 1 = .ok (.iconst 1, 1) := by decide +kernel
theorem dX5_write_2 : decode cX5_write 2 = .ok (.if_icmp .lt 9, 3) := by decide +kernel
theorem dX5_write_5 : decode cX5_write 5 = .ok (.iload_n 1, 1) := by decide +kernel
theorem dX5_write_6 : decode cX5_write 6 = .ok (.bipush 8, 2) := by decide +kernel
theorem dX5_write_8 : decode cX5_write 8 = .ok (.if_icmp .le 6, 3) := by decide +kernel
theorem dX5_write_11 : decode cX5_write 11 = .ok (.bipush (-2), 2) := by decide +kernel
theorem dX5_write_13 : decode cX5_write 13 = .ok (.ireturn, 1) := by decide +kernel
theorem dX5_write_14 : decode cX5_write 14 = .ok (.aload_n 0, 1) := by decide +kernel
theorem dX5_write_15 : decode cX5_write 15 = .ok (.getfield 12, 3) := by decide +kernel
theorem dX5_write_18 : decode cX5_write 18 = .ok (.getfield 62, 3) := by decide +kernel
theorem dX5_write_21 : decode cX5_write 21 = .ok (.iload_n 1, 1) := by decide +kernel
theorem dX5_write_22 : decode cX5_write 22 = .ok (.iadd, 1) := by decide +kernel
theorem dX5_write_23 : decode cX5_write 23 = .ok (.bipush 24, 2) := by decide +kernel
theorem dX5_write_25 : decode cX5_write 25 = .ok (.if_icmp .le 6, 3) := by decide +kernel
theorem dX5_write_28 : decode cX5_write 28 = .ok (.bipush (-4), 2) := by decide +kernel
theorem dX5_write_30 : decode cX5_write 30 = .ok (.ireturn, 1) := by decide +kernel
theorem dX5_write_31 : decode cX5_write 31 = .ok (.aload_n 0, 1) := by decide +kernel
theorem dX5_write_32 : decode cX5_write 32 = .ok (.getfield 12, 3) := by decide +kernel
theorem dX5_write_35 : decode cX5_write 35 = .ok (.iload_n 1, 1) := by decide +kernel
theorem dX5_write_36 : decode cX5_write 36 = .ok (.lload_n 2, 1) := by decide +kernel
theorem dX5_write_37 : decode cX5_write 37 = .ok (.invokevirtual 66, 3) := by decide +kernel
theorem dX5_write_40 : decode cX5_write 40 = .ok (.aload_n 0, 1) := by decide +kernel
theorem dX5_write_41 : decode cX5_write 41 = .ok (.getfield 12, 3) := by decide +kernel
theorem dX5_write_44 : decode cX5_write 44 = .ok (.getfield 62, 3) := by decide +kernel
theorem dX5_write_47 : decode cX5_write 47 = .ok (.ireturn, 1) := by decide +kernel
theorem dX5_wipe_0 : decode cX5_wipe 0 = .ok (.aload_n 0, 1) := by decide +kernel
theorem dX5_wipe_1 : decode cX5_wipe 1 = .ok (.getfield 12, 3) := by decide +kernel
theorem dX5_wipe_4 : decode cX5_wipe 4 = .ok (.getfield 62, 3) := by decide +kernel
theorem dX5_wipe_7 : decode cX5_wipe 7 = .ok (.istore_n 1, 1) := by decide +kernel
theorem dX5_wipe_8 : decode cX5_wipe 8 = .ok (.aload_n 0, 1) := by decide +kernel
theorem dX5_wipe_9 : decode cX5_wipe 9 = .ok (.getfield 12, 3) := by decide +kernel
theorem dX5_wipe_12 : decode cX5_wipe 12 = .ok (.iconst 0, 1) := by decide +kernel
theorem dX5_wipe_13 : decode cX5_wipe 13 = .ok (.putfield 62, 3) := by decide +kernel
theorem dX5_wipe_16 : decode cX5_wipe 16 = .ok (.iload_n 1, 1) := by decide +kernel
theorem dX5_wipe_17 : decode cX5_wipe 17 = .ok (.ireturn, 1) := by decide +kernel
theorem dX5_fault_0 : decode cX5_fault 0 = .ok (.aload_n 0, 1) := by decide +kernel
theorem dX5_fault_1 : decode cX5_fault 1 = .ok (.getfield 12, 3) := by decide +kernel
theorem dX5_fault_4 : decode cX5_fault 4 = .ok (.invokevirtual 70, 3) := by decide +kernel
theorem dX5_fault_7 : decode cX5_fault 7 = .ok (.ireturn, 1) := by decide +kernel
theorem dX5_board_0 : decode cX5_board 0 = .ok (.aload_n 0, 1) := by decide +kernel
theorem dX5_board_1 : decode cX5_board 1 = .ok (.getfield 12, 3) := by decide +kernel
theorem dX5_board_4 : decode cX5_board 4 = .ok (.invokevirtual 70, 3) := by decide +kernel
theorem dX5_board_7 : decode cX5_board 7 = .ok (.bipush (-9), 2) := by decide +kernel
theorem dX5_board_9 : decode cX5_board 9 = .ok (.if_icmp .eq 6, 3) := by decide +kernel
theorem dX5_board_12 : decode cX5_board 12 = .ok (.bipush (-3), 2) := by decide +kernel
theorem dX5_board_14 : decode cX5_board 14 = .ok (.ireturn, 1) := by decide +kernel
theorem dX5_board_15 : decode cX5_board 15 = .ok (.aload_n 0, 1) := by decide +kernel
theorem dX5_board_16 : decode cX5_board 16 = .ok (.getfield 19, 3) := by decide +kernel
theorem dX5_board_19 : decode cX5_board 19 = .ok (.aload_n 0, 1) := by decide +kernel
theorem dX5_board_20 : decode cX5_board 20 = .ok (.getfield 12, 3) := by decide +kernel
theorem dX5_board_23 : decode cX5_board 23 = .ok (.invokevirtual 74, 3) := by decide +kernel
theorem dX5_board_26 : decode cX5_board 26 = .ok (.aload_n 0, 1) := by decide +kernel
theorem dX5_board_27 : decode cX5_board 27 = .ok (.getfield 12, 3) := by decide +kernel
theorem dX5_board_30 : decode cX5_board 30 = .ok (.invokevirtual 77, 3) := by decide +kernel
theorem dX5_board_33 : decode cX5_board 33 = .ok (.aload_n 0, 1) := by decide +kernel
theorem dX5_board_34 : decode cX5_board 34 = .ok (.getfield 12, 3) := by decide +kernel
theorem dX5_board_37 : decode cX5_board 37 = .ok (.invokevirtual 80, 3) := by decide +kernel
theorem dX5_board_40 : decode cX5_board 40 = .ok (.invokevirtual 58, 3) := by decide +kernel
theorem dX5_board_43 : decode cX5_board 43 = .ok (.aload_n 0, 1) := by decide +kernel
theorem dX5_board_44 : decode cX5_board 44 = .ok (.getfield 32, 3) := by decide +kernel
theorem dX5_board_47 : decode cX5_board 47 = .ok (.invokevirtual 83, 3) := by decide +kernel
theorem dX5_board_50 : decode cX5_board 50 = .ok (.iconst 0, 1) := by decide +kernel
theorem dX5_board_51 : decode cX5_board 51 = .ok (.istore_n 1, 1) := by decide +kernel
theorem dX5_board_52 : decode cX5_board 52 = .ok (.iload_n 1, 1) := by decide +kernel
theorem dX5_board_53 : decode cX5_board 53 = .ok (.aload_n 0, 1) := by decide +kernel
theorem dX5_board_54 : decode cX5_board 54 = .ok (.getfield 19, 3) := by decide +kernel
theorem dX5_board_57 : decode cX5_board 57 = .ok (.getfield 86, 3) := by decide +kernel
theorem dX5_board_60 : decode cX5_board 60 = .ok (.if_icmp .ge 25, 3) := by decide +kernel
theorem dX5_board_63 : decode cX5_board 63 = .ok (.aload_n 0, 1) := by decide +kernel
theorem dX5_board_64 : decode cX5_board 64 = .ok (.getfield 32, 3) := by decide +kernel
theorem dX5_board_67 : decode cX5_board 67 = .ok (.iload_n 1, 1) := by decide +kernel
theorem dX5_board_68 : decode cX5_board 68 = .ok (.aload_n 0, 1) := by decide +kernel
theorem dX5_board_69 : decode cX5_board 69 = .ok (.getfield 12, 3) := by decide +kernel
theorem dX5_board_72 : decode cX5_board 72 = .ok (.iload_n 1, 1) := by decide +kernel
theorem dX5_board_73 : decode cX5_board 73 = .ok (.invokevirtual 89, 3) := by decide +kernel
theorem dX5_board_76 : decode cX5_board 76 = .ok (.invokevirtual 93, 3) := by decide +kernel
theorem dX5_board_79 : decode cX5_board 79 = .ok (.iinc 1 1, 3) := by decide +kernel
theorem dX5_board_82 : decode cX5_board 82 = .ok (.goto (-30), 3) := by decide +kernel
theorem dX5_board_85 : decode cX5_board 85 = .ok (.aload_n 0, 1) := by decide +kernel
theorem dX5_board_86 : decode cX5_board 86 = .ok (.getfield 32, 3) := by decide +kernel
theorem dX5_board_89 : decode cX5_board 89 = .ok (.aload_n 0, 1) := by decide +kernel
theorem dX5_board_90 : decode cX5_board 90 = .ok (.getfield 12, 3) := by decide +kernel
theorem dX5_board_93 : decode cX5_board 93 = .ok (.invokevirtual 97, 3) := by decide +kernel
theorem dX5_board_96 : decode cX5_board 96 = .ok (.putfield 100, 3) := by decide +kernel
theorem dX5_board_99 : decode cX5_board 99 = .ok (.aload_n 0, 1) := by decide +kernel
theorem dX5_board_100 : decode cX5_board 100 = .ok (.getfield 41, 3) := by decide +kernel
theorem dX5_board_103 : decode cX5_board 103 = .ok (.invokevirtual 103, 3) := by decide +kernel
theorem dX5_board_106 : decode cX5_board 106 = .ok (.aload_n 0, 1) := by decide +kernel
theorem dX5_board_107 : decode cX5_board 107 = .ok (.getfield 50, 3) := by decide +kernel
theorem dX5_board_110 : decode cX5_board 110 = .ok (.invokevirtual 104, 3) := by decide +kernel
theorem dX5_board_113 : decode cX5_board 113 = .ok (.aload_n 0, 1) := by decide +kernel
theorem dX5_board_114 : decode cX5_board 114 = .ok (.getfield 19, 3) := by decide +kernel
theorem dX5_board_117 : decode cX5_board 117 = .ok (.getfield 86, 3) := by decide +kernel
theorem dX5_board_120 : decode cX5_board 120 = .ok (.ireturn, 1) := by decide +kernel
theorem dX5_cell_0 : decode cX5_cell 0 = .ok (.aload_n 0, 1) := by decide +kernel
theorem dX5_cell_1 : decode cX5_cell 1 = .ok (.iload_n 1, 1) := by decide +kernel
theorem dX5_cell_2 : decode cX5_cell 2 = .ok (.invokevirtual 105, 3) := by decide +kernel
theorem dX5_cell_5 : decode cX5_cell 5 = .ok (.ifCond .eq 17, 3) := by decide +kernel
theorem dX5_cell_8 : decode cX5_cell 8 = .ok (.aload_n 0, 1) := by decide +kernel
theorem dX5_cell_9 : decode cX5_cell 9 = .ok (.getfield 32, 3) := by decide +kernel
theorem dX5_cell_12 : decode cX5_cell 12 = .ok (.iload_n 1, 1) := by decide +kernel
theorem dX5_cell_13 : decode cX5_cell 13 = .ok (.invokevirtual 109, 3) := by decide +kernel
theorem dX5_cell_16 : decode cX5_cell 16 = .ok (.invokestatic 112, 3) := by decide +kernel
theorem dX5_cell_19 : decode cX5_cell 19 = .ok (.goto 4, 3) := by decide +kernel
theorem dX5_cell_22 : decode cX5_cell 22 = .ok (.iconst (-1), 1) := by decide +kernel
theorem dX5_cell_23 : decode cX5_cell 23 = .ok (.ireturn, 1) := by decide +kernel
theorem dX5_gone_0 : decode cX5_gone 0 = .ok (.aload_n 0, 1) := by decide +kernel
theorem dX5_gone_1 : decode cX5_gone 1 = .ok (.iload_n 1, 1) := by decide +kernel
theorem dX5_gone_2 : decode cX5_gone 2 = .ok (.invokevirtual 105, 3) := by decide +kernel
theorem dX5_gone_5 : decode cX5_gone 5 = .ok (.ifCond .ne 5, 3) := by decide +kernel
theorem dX5_gone_8 : decode cX5_gone 8 = .ok (.iconst (-1), 1) := by decide +kernel
theorem dX5_gone_9 : decode cX5_gone 9 = .ok (.ireturn, 1) := by decide +kernel
theorem dX5_gone_10 : decode cX5_gone 10 = .ok (.aload_n 0, 1) := by decide +kernel
theorem dX5_gone_11 : decode cX5_gone 11 = .ok (.getfield 32, 3) := by decide +kernel
theorem dX5_gone_14 : decode cX5_gone 14 = .ok (.getfield 115, 3) := by decide +kernel
theorem dX5_gone_17 : decode cX5_gone 17 = .ok (.iload_n 1, 1) := by decide +kernel
theorem dX5_gone_18 : decode cX5_gone 18 = .ok (.invokestatic 118, 3) := by decide +kernel
theorem dX5_gone_21 : decode cX5_gone 21 = .ok (.ifCond .eq 14, 3) := by decide +kernel
theorem dX5_gone_24 : decode cX5_gone 24 = .ok (.aload_n 0, 1) := by decide +kernel
theorem dX5_gone_25 : decode cX5_gone 25 = .ok (.getfield 32, 3) := by decide +kernel
theorem dX5_gone_28 : decode cX5_gone 28 = .ok (.iload_n 1, 1) := by decide +kernel
theorem dX5_gone_29 : decode cX5_gone 29 = .ok (.invokevirtual 122, 3) := by decide +kernel
theorem dX5_gone_32 : decode cX5_gone 32 = .ok (.goto 5, 3) := by decide +kernel
theorem dX5_gone_35 : decode cX5_gone 35 = .ok (.bipush (-3), 2) := by decide +kernel
theorem dX5_gone_37 : decode cX5_gone 37 = .ok (.ireturn, 1) := by decide +kernel
theorem dX5_aims_0 : decode cX5_aims 0 = .ok (.aload_n 0, 1) := by decide +kernel
theorem dX5_aims_1 : decode cX5_aims 1 = .ok (.iload_n 1, 1) := by decide +kernel
theorem dX5_aims_2 : decode cX5_aims 2 = .ok (.invokevirtual 105, 3) := by decide +kernel
theorem dX5_aims_5 : decode cX5_aims 5 = .ok (.ifCond .eq 29, 3) := by decide +kernel
theorem dX5_aims_8 : decode cX5_aims 8 = .ok (.aload_n 0, 1) := by decide +kernel
theorem dX5_aims_9 : decode cX5_aims 9 = .ok (.getfield 19, 3) := by decide +kernel
theorem dX5_aims_12 : decode cX5_aims 12 = .ok (.aload_n 0, 1) := by decide +kernel
theorem dX5_aims_13 : decode cX5_aims 13 = .ok (.getfield 32, 3) := by decide +kernel
theorem dX5_aims_16 : decode cX5_aims 16 = .ok (.iload_n 1, 1) := by decide +kernel
theorem dX5_aims_17 : decode cX5_aims 17 = .ok (.invokevirtual 109, 3) := by decide +kernel
theorem dX5_aims_20 : decode cX5_aims 20 = .ok (.iload_n 1, 1) := by decide +kernel
theorem dX5_aims_21 : decode cX5_aims 21 = .ok (.aload_n 0, 1) := by decide +kernel
theorem dX5_aims_22 : decode cX5_aims 22 = .ok (.getfield 32, 3) := by decide +kernel
theorem dX5_aims_25 : decode cX5_aims 25 = .ok (.invokevirtual 125, 3) := by decide +kernel
theorem dX5_aims_28 : decode cX5_aims 28 = .ok (.invokevirtual 128, 3) := by decide +kernel
theorem dX5_aims_31 : decode cX5_aims 31 = .ok (.goto 4, 3) := by decide +kernel
theorem dX5_aims_34 : decode cX5_aims 34 = .ok (.iconst (-1), 1) := by decide +kernel
theorem dX5_aims_35 : decode cX5_aims 35 = .ok (.ireturn, 1) := by decide +kernel
theorem dX5_can_0 : decode cX5_can 0 = .ok (.aload_n 0, 1) := by decide +kernel
theorem dX5_can_1 : decode cX5_can 1 = .ok (.iload_n 1, 1) := by decide +kernel
theorem dX5_can_2 : decode cX5_can 2 = .ok (.invokevirtual 105, 3) := by decide +kernel
theorem dX5_can_5 : decode cX5_can 5 = .ok (.ifCond .eq 18, 3) := by decide +kernel
theorem dX5_can_8 : decode cX5_can 8 = .ok (.aload_n 0, 1) := by decide +kernel
theorem dX5_can_9 : decode cX5_can 9 = .ok (.getfield 32, 3) := by decide +kernel
theorem dX5_can_12 : decode cX5_can 12 = .ok (.aload_n 0, 1) := by decide +kernel
theorem dX5_can_13 : decode cX5_can 13 = .ok (.getfield 19, 3) := by decide +kernel
theorem dX5_can_16 : decode cX5_can 16 = .ok (.iload_n 1, 1) := by decide +kernel
theorem dX5_can_17 : decode cX5_can 17 = .ok (.invokevirtual 132, 3) := by decide +kernel
theorem dX5_can_20 : decode cX5_can 20 = .ok (.goto 4, 3) := by decide +kernel
theorem dX5_can_23 : decode cX5_can 23 = .ok (.iconst (-1), 1) := by decide +kernel
theorem dX5_can_24 : decode cX5_can 24 = .ok (.ireturn, 1) := by decide +kernel
theorem dX5_plies_0 : decode cX5_plies 0 = .ok (.aload_n 0, 1) := by decide +kernel
theorem dX5_plies_1 : decode cX5_plies 1 = .ok (.getfield 32, 3) := by decide +kernel
theorem dX5_plies_4 : decode cX5_plies 4 = .ok (.aload_n 0, 1) := by decide +kernel
theorem dX5_plies_5 : decode cX5_plies 5 = .ok (.getfield 19, 3) := by decide +kernel
theorem dX5_plies_8 : decode cX5_plies 8 = .ok (.invokevirtual 136, 3) := by decide +kernel
theorem dX5_plies_11 : decode cX5_plies 11 = .ok (.ireturn, 1) := by decide +kernel
theorem dX5_move_0 : decode cX5_move 0 = .ok (.aload_n 0, 1) := by decide +kernel
theorem dX5_move_1 : decode cX5_move 1 = .ok (.iload_n 1, 1) := by decide +kernel
theorem dX5_move_2 : decode cX5_move 2 = .ok (.invokevirtual 105, 3) := by decide +kernel
theorem dX5_move_5 : decode cX5_move 5 = .ok (.ifCond .eq 11, 3) := by decide +kernel
theorem dX5_move_8 : decode cX5_move 8 = .ok (.aload_n 0, 1) := by decide +kernel
theorem dX5_move_9 : decode cX5_move 9 = .ok (.iload_n 2, 1) := by decide +kernel
theorem dX5_move_10 : decode cX5_move 10 = .ok (.invokevirtual 105, 3) := by decide +kernel
theorem dX5_move_13 : decode cX5_move 13 = .ok (.ifCond .ne 5, 3) := by decide +kernel
theorem dX5_move_16 : decode cX5_move 16 = .ok (.iconst (-1), 1) := by decide +kernel
theorem dX5_move_17 : decode cX5_move 17 = .ok (.ireturn, 1) := by decide +kernel
theorem dX5_move_18 : decode cX5_move 18 = .ok (.iload_n 1, 1) := by decide +kernel
theorem dX5_move_19 : decode cX5_move 19 = .ok (.bipush 100, 2) := by decide +kernel
theorem dX5_move_21 : decode cX5_move 21 = .ok (.imul, 1) := by decide +kernel
theorem dX5_move_22 : decode cX5_move 22 = .ok (.iload_n 2, 1) := by decide +kernel
theorem dX5_move_23 : decode cX5_move 23 = .ok (.iadd, 1) := by decide +kernel
theorem dX5_move_24 : decode cX5_move 24 = .ok (.istore_n 3, 1) := by decide +kernel
theorem dX5_move_25 : decode cX5_move 25 = .ok (.aload_n 0, 1) := by decide +kernel
theorem dX5_move_26 : decode cX5_move 26 = .ok (.aload_n 0, 1) := by decide +kernel
theorem dX5_move_27 : decode cX5_move 27 = .ok (.getfield 32, 3) := by decide +kernel
theorem dX5_move_30 : decode cX5_move 30 = .ok (.iload_n 3, 1) := by decide +kernel
theorem dX5_move_31 : decode cX5_move 31 = .ok (.invokevirtual 140, 3) := by decide +kernel
theorem dX5_move_34 : decode cX5_move 34 = .ok (.ifCond .ne 6, 3) := by decide +kernel
theorem dX5_move_37 : decode cX5_move 37 = .ok (.bipush (-3), 2) := by decide +kernel
theorem dX5_move_39 : decode cX5_move 39 = .ok (.ireturn, 1) := by decide +kernel
theorem dX5_move_40 : decode cX5_move 40 = .ok (.aload_n 0, 1) := by decide +kernel
theorem dX5_move_41 : decode cX5_move 41 = .ok (.getfield 32, 3) := by decide +kernel
theorem dX5_move_44 : decode cX5_move 44 = .ok (.iload_n 2, 1) := by decide +kernel
theorem dX5_move_45 : decode cX5_move 45 = .ok (.invokevirtual 109, 3) := by decide +kernel
theorem dX5_move_48 : decode cX5_move 48 = .ok (.istore 4, 2) := by decide +kernel
theorem dX5_move_50 : decode cX5_move 50 = .ok (.aload_n 0, 1) := by decide +kernel
theorem dX5_move_51 : decode cX5_move 51 = .ok (.getfield 41, 3) := by decide +kernel
theorem dX5_move_54 : decode cX5_move 54 = .ok (.aload_n 0, 1) := by decide +kernel
theorem dX5_move_55 : decode cX5_move 55 = .ok (.getfield 32, 3) := by decide +kernel
theorem dX5_move_58 : decode cX5_move 58 = .ok (.invokevirtual 144, 3) := by decide +kernel
theorem dX5_move_61 : decode cX5_move 61 = .ok (.aload_n 0, 1) := by decide +kernel
theorem dX5_move_62 : decode cX5_move 62 = .ok (.getfield 32, 3) := by decide +kernel
theorem dX5_move_65 : decode cX5_move 65 = .ok (.iload_n 3, 1) := by decide +kernel
theorem dX5_move_66 : decode cX5_move 66 = .ok (.aload_n 0, 1) := by decide +kernel
theorem dX5_move_67 : decode cX5_move 67 = .ok (.getfield 19, 3) := by decide +kernel
theorem dX5_move_70 : decode cX5_move 70 = .ok (.getfield 146, 3) := by decide +kernel
theorem dX5_move_73 : decode cX5_move 73 = .ok (.invokevirtual 148, 3) := by decide +kernel
theorem dX5_move_76 : decode cX5_move 76 = .ok (.iload 4, 2) := by decide +kernel
theorem dX5_move_78 : decode cX5_move 78 = .ok (.invokestatic 112, 3) := by decide +kernel
theorem dX5_move_81 : decode cX5_move 81 = .ok (.ireturn, 1) := by decide +kernel
theorem dX5_pass_0 : decode cX5_pass 0 = .ok (.aload_n 0, 1) := by decide +kernel
theorem dX5_pass_1 : decode cX5_pass 1 = .ok (.getfield 32, 3) := by decide +kernel
theorem dX5_pass_4 : decode cX5_pass 4 = .ok (.aload_n 0, 1) := by decide +kernel
theorem dX5_pass_5 : decode cX5_pass 5 = .ok (.getfield 19, 3) := by decide +kernel
theorem dX5_pass_8 : decode cX5_pass 8 = .ok (.invokevirtual 136, 3) := by decide +kernel
theorem dX5_pass_11 : decode cX5_pass 11 = .ok (.iconst 1, 1) := by decide +kernel
theorem dX5_pass_12 : decode cX5_pass 12 = .ok (.if_icmp .ne 16, 3) := by decide +kernel
theorem dX5_pass_15 : decode cX5_pass 15 = .ok (.aload_n 0, 1) := by decide +kernel
theorem dX5_pass_16 : decode cX5_pass 16 = .ok (.getfield 32, 3) := by decide +kernel
theorem dX5_pass_19 : decode cX5_pass 19 = .ok (.iconst 0, 1) := by decide +kernel
theorem dX5_pass_20 : decode cX5_pass 20 = .ok (.invokevirtual 151, 3) := by decide +kernel
theorem dX5_pass_23 : decode cX5_pass 23 = .ok (.bipush (-9), 2) := by decide +kernel
theorem dX5_pass_25 : decode cX5_pass 25 = .ok (.if_icmp .eq 6, 3) := by decide +kernel
theorem dX5_pass_28 : decode cX5_pass 28 = .ok (.bipush (-3), 2) := by decide +kernel
theorem dX5_pass_30 : decode cX5_pass 30 = .ok (.ireturn, 1) := by decide +kernel
theorem dX5_pass_31 : decode cX5_pass 31 = .ok (.aload_n 0, 1) := by decide +kernel
theorem dX5_pass_32 : decode cX5_pass 32 = .ok (.getfield 41, 3) := by decide +kernel
theorem dX5_pass_35 : decode cX5_pass 35 = .ok (.aload_n 0, 1) := by decide +kernel
theorem dX5_pass_36 : decode cX5_pass 36 = .ok (.getfield 32, 3) := by decide +kernel
theorem dX5_pass_39 : decode cX5_pass 39 = .ok (.invokevirtual 144, 3) := by decide +kernel
theorem dX5_pass_42 : decode cX5_pass 42 = .ok (.aload_n 0, 1) := by decide +kernel
theorem dX5_pass_43 : decode cX5_pass 43 = .ok (.getfield 32, 3) := by decide +kernel
theorem dX5_pass_46 : decode cX5_pass 46 = .ok (.bipush (-9), 2) := by decide +kernel
theorem dX5_pass_48 : decode cX5_pass 48 = .ok (.aload_n 0, 1) := by decide +kernel
theorem dX5_pass_49 : decode cX5_pass 49 = .ok (.getfield 19, 3) := by decide +kernel
theorem dX5_pass_52 : decode cX5_pass 52 = .ok (.getfield 146, 3) := by decide +kernel
theorem dX5_pass_55 : decode cX5_pass 55 = .ok (.invokevirtual 148, 3) := by decide +kernel
theorem dX5_pass_58 : decode cX5_pass 58 = .ok (.aload_n 0, 1) := by decide +kernel
theorem dX5_pass_59 : decode cX5_pass 59 = .ok (.getfield 32, 3) := by decide +kernel
theorem dX5_pass_62 : decode cX5_pass 62 = .ok (.getfield 100, 3) := by decide +kernel
theorem dX5_pass_65 : decode cX5_pass 65 = .ok (.ireturn, 1) := by decide +kernel
theorem dX5_undo_0 : decode cX5_undo 0 = .ok (.aload_n 0, 1) := by decide +kernel
theorem dX5_undo_1 : decode cX5_undo 1 = .ok (.getfield 41, 3) := by decide +kernel
theorem dX5_undo_4 : decode cX5_undo 4 = .ok (.getfield 154, 3) := by decide +kernel
theorem dX5_undo_7 : decode cX5_undo 7 = .ok (.iconst 1, 1) := by decide +kernel
theorem dX5_undo_8 : decode cX5_undo 8 = .ok (.if_icmp .ge 6, 3) := by decide +kernel
theorem dX5_undo_11 : decode cX5_undo 11 = .ok (.bipush (-3), 2) := by decide +kernel
theorem dX5_undo_13 : decode cX5_undo 13 = .ok (.ireturn, 1) := by decide +kernel
theorem dX5_undo_14 : decode cX5_undo 14 = .ok (.aload_n 0, 1) := by decide +kernel
theorem dX5_undo_15 : decode cX5_undo 15 = .ok (.getfield 41, 3) := by decide +kernel
theorem dX5_undo_18 : decode cX5_undo 18 = .ok (.aload_n 0, 1) := by decide +kernel
theorem dX5_undo_19 : decode cX5_undo 19 = .ok (.getfield 32, 3) := by decide +kernel
theorem dX5_undo_22 : decode cX5_undo 22 = .ok (.invokevirtual 157, 3) := by decide +kernel
theorem dX5_undo_25 : decode cX5_undo 25 = .ok (.aload_n 0, 1) := by decide +kernel
theorem dX5_undo_26 : decode cX5_undo 26 = .ok (.getfield 41, 3) := by decide +kernel
theorem dX5_undo_29 : decode cX5_undo 29 = .ok (.getfield 154, 3) := by decide +kernel
theorem dX5_undo_32 : decode cX5_undo 32 = .ok (.ireturn, 1) := by decide +kernel
theorem dX5_judge_0 : decode cX5_judge 0 = .ok (.iload_n 1, 1) := by decide +kernel
theorem dX5_judge_1 : decode cX5_judge 1 = .ok (.iconst 1, 1) := by decide +kernel
theorem dX5_judge_2 : decode cX5_judge 2 = .ok (.if_icmp .lt 8, 3) := by decide +kernel
theorem dX5_judge_5 : decode cX5_judge 5 = .ok (.iload_n 1, 1) := by decide +kernel
theorem dX5_judge_6 : decode cX5_judge 6 = .ok (.iconst 2, 1) := by decide +kernel
theorem dX5_judge_7 : decode cX5_judge 7 = .ok (.if_icmp .le 6, 3) := by decide +kernel
theorem dX5_judge_10 : decode cX5_judge 10 = .ok (.bipush (-2), 2) := by decide +kernel
theorem dX5_judge_12 : decode cX5_judge 12 = .ok (.ireturn, 1) := by decide +kernel
theorem dX5_judge_13 : decode cX5_judge 13 = .ok (.iload_n 2, 1) := by decide +kernel
theorem dX5_judge_14 : decode cX5_judge 14 = .ok (.ifCond .lt 23, 3) := by decide +kernel
theorem dX5_judge_17 : decode cX5_judge 17 = .ok (.iload_n 1, 1) := by decide +kernel
theorem dX5_judge_18 : decode cX5_judge 18 = .ok (.iconst 1, 1) := by decide +kernel
theorem dX5_judge_19 : decode cX5_judge 19 = .ok (.if_icmp .ne 7, 3) := by decide +kernel
theorem dX5_judge_22 : decode cX5_judge 22 = .ok (.iload_n 2, 1) := by decide +kernel
theorem dX5_judge_23 : decode cX5_judge 23 = .ok (.goto 8, 3) := by decide +kernel
theorem dX5_judge_26 : decode cX5_judge 26 = .ok (.iload_n 2, 1) := by decide +kernel
theorem dX5_judge_27 : decode cX5_judge 27 = .ok (.sipush 10000, 3) := by decide +kernel
theorem dX5_judge_30 : decode cX5_judge 30 = .ok (.idiv, 1) := by decide +kernel
theorem dX5_judge_31 : decode cX5_judge 31 = .ok (.sipush 10000, 3) := by decide +kernel
theorem dX5_judge_34 : decode cX5_judge 34 = .ok (.if_icmp .lt 6, 3) := by decide +kernel
theorem dX5_judge_37 : decode cX5_judge 37 = .ok (.bipush (-2), 2) := by decide +kernel
theorem dX5_judge_39 : decode cX5_judge 39 = .ok (.ireturn, 1) := by decide +kernel
theorem dX5_judge_40 : decode cX5_judge 40 = .ok (.aload_n 0, 1) := by decide +kernel
theorem dX5_judge_41 : decode cX5_judge 41 = .ok (.getfield 28, 3) := by decide +kernel
theorem dX5_judge_44 : decode cX5_judge 44 = .ok (.aload_n 0, 1) := by decide +kernel
theorem dX5_judge_45 : decode cX5_judge 45 = .ok (.getfield 32, 3) := by decide +kernel
theorem dX5_judge_48 : decode cX5_judge 48 = .ok (.invokevirtual 160, 3) := by decide +kernel
theorem dX5_judge_51 : decode cX5_judge 51 = .ok (.iconst 0, 1) := by decide +kernel
theorem dX5_judge_52 : decode cX5_judge 52 = .ok (.istore_n 3, 1) := by decide +kernel
theorem dX5_judge_53 : decode cX5_judge 53 = .ok (.iload_n 3, 1) := by decide +kernel
theorem dX5_judge_54 : decode cX5_judge 54 = .ok (.iload_n 1, 1) := by decide +kernel
theorem dX5_judge_55 : decode cX5_judge 55 = .ok (.if_icmp .ge 62, 3) := by decide +kernel
theorem dX5_judge_58 : decode cX5_judge 58 = .ok (.iload_n 3, 1) := by decide +kernel
theorem dX5_judge_59 : decode cX5_judge 59 = .ok (.iload_n 1, 1) := by decide +kernel
theorem dX5_judge_60 : decode cX5_judge 60 = .ok (.iconst 1, 1) := by decide +kernel
theorem dX5_judge_61 : decode cX5_judge 61 = .ok (.isub, 1) := by decide +kernel
theorem dX5_judge_62 : decode cX5_judge 62 = .ok (.if_icmp .ne 11, 3) := by decide +kernel
theorem dX5_judge_65 : decode cX5_judge 65 = .ok (.iload_n 2, 1) := by decide +kernel
theorem dX5_judge_66 : decode cX5_judge 66 = .ok (.sipush 10000, 3) := by decide +kernel
theorem dX5_judge_69 : decode cX5_judge 69 = .ok (.irem, 1) := by decide +kernel
theorem dX5_judge_70 : decode cX5_judge 70 = .ok (.goto 8, 3) := by decide +kernel
theorem dX5_judge_73 : decode cX5_judge 73 = .ok (.iload_n 2, 1) := by decide +kernel
theorem dX5_judge_74 : decode cX5_judge 74 = .ok (.sipush 10000, 3) := by decide +kernel
theorem dX5_judge_77 : decode cX5_judge 77 = .ok (.idiv, 1) := by decide +kernel
theorem dX5_judge_78 : decode cX5_judge 78 = .ok (.istore 4, 2) := by decide +kernel
theorem dX5_judge_80 : decode cX5_judge 80 = .ok (.aload_n 0, 1) := by decide +kernel
theorem dX5_judge_81 : decode cX5_judge 81 = .ok (.aload_n 0, 1) := by decide +kernel
theorem dX5_judge_82 : decode cX5_judge 82 = .ok (.getfield 28, 3) := by decide +kernel
theorem dX5_judge_85 : decode cX5_judge 85 = .ok (.iload 4, 2) := by decide +kernel
theorem dX5_judge_87 : decode cX5_judge 87 = .ok (.invokevirtual 140, 3) := by decide +kernel
theorem dX5_judge_90 : decode cX5_judge 90 = .ok (.ifCond .ne 5, 3) := by decide +kernel
theorem dX5_judge_93 : decode cX5_judge 93 = .ok (.iload_n 3, 1) := by decide +kernel
theorem dX5_judge_94 : decode cX5_judge 94 = .ok (.ireturn, 1) := by decide +kernel
theorem dX5_judge_95 : decode cX5_judge 95 = .ok (.aload_n 0, 1) := by decide +kernel
theorem dX5_judge_96 : decode cX5_judge 96 = .ok (.getfield 28, 3) := by decide +kernel
theorem dX5_judge_99 : decode cX5_judge 99 = .ok (.iload 4, 2) := by decide +kernel
theorem dX5_judge_101 : decode cX5_judge 101 = .ok (.aload_n 0, 1) := by decide +kernel
theorem dX5_judge_102 : decode cX5_judge 102 = .ok (.getfield 19, 3) := by decide +kernel
theorem dX5_judge_105 : decode cX5_judge 105 = .ok (.getfield 146, 3) := by decide +kernel
theorem dX5_judge_108 : decode cX5_judge 108 = .ok (.invokevirtual 148, 3) := by decide +kernel
theorem dX5_judge_111 : decode cX5_judge 111 = .ok (.iinc 3 1, 3) := by decide +kernel
theorem dX5_judge_114 : decode cX5_judge 114 = .ok (.goto (-61), 3) := by decide +kernel
theorem dX5_judge_117 : decode cX5_judge 117 = .ok (.bipush (-9), 2) := by decide +kernel
theorem dX5_judge_119 : decode cX5_judge 119 = .ok (.ireturn, 1) := by decide +kernel
theorem dX5_wins_0 : decode cX5_wins 0 = .ok (.aload_n 0, 1) := by decide +kernel
theorem dX5_wins_1 : decode cX5_wins 1 = .ok (.iload_n 1, 1) := by decide +kernel
theorem dX5_wins_2 : decode cX5_wins 2 = .ok (.invokevirtual 163, 3) := by decide +kernel
theorem dX5_wins_5 : decode cX5_wins 5 = .ok (.istore_n 2, 1) := by decide +kernel
theorem dX5_wins_6 : decode cX5_wins 6 = .ok (.iload_n 2, 1) := by decide +kernel
theorem dX5_wins_7 : decode cX5_wins 7 = .ok (.bipush (-9), 2) := by decide +kernel
theorem dX5_wins_9 : decode cX5_wins 9 = .ok (.if_icmp .eq 5, 3) := by decide +kernel
theorem dX5_wins_12 : decode cX5_wins 12 = .ok (.iload_n 2, 1) := by decide +kernel
theorem dX5_wins_13 : decode cX5_wins 13 = .ok (.ireturn, 1) := by decide +kernel
theorem dX5_wins_14 : decode cX5_wins 14 = .ok (.aload_n 0, 1) := by decide +kernel
theorem dX5_wins_15 : decode cX5_wins 15 = .ok (.getfield 19, 3) := by decide +kernel
theorem dX5_wins_18 : decode cX5_wins 18 = .ok (.aload_n 0, 1) := by decide +kernel
theorem dX5_wins_19 : decode cX5_wins 19 = .ok (.getfield 32, 3) := by decide +kernel
theorem dX5_wins_22 : decode cX5_wins 22 = .ok (.aload_n 0, 1) := by decide +kernel
theorem dX5_wins_23 : decode cX5_wins 23 = .ok (.getfield 32, 3) := by decide +kernel
theorem dX5_wins_26 : decode cX5_wins 26 = .ok (.getfield 100, 3) := by decide +kernel
theorem dX5_wins_29 : decode cX5_wins 29 = .ok (.iload_n 1, 1) := by decide +kernel
theorem dX5_wins_30 : decode cX5_wins 30 = .ok (.invokestatic 166, 3) := by decide +kernel
theorem dX5_wins_33 : decode cX5_wins 33 = .ok (.ifCond .eq 7, 3) := by decide +kernel
theorem dX5_wins_36 : decode cX5_wins 36 = .ok (.iconst 1, 1) := by decide +kernel
theorem dX5_wins_37 : decode cX5_wins 37 = .ok (.goto 4, 3) := by decide +kernel
theorem dX5_wins_40 : decode cX5_wins 40 = .ok (.iconst 0, 1) := by decide +kernel
theorem dX5_wins_41 : decode cX5_wins 41 = .ok (.ireturn, 1) := by decide +kernel
theorem dX5_keys_0 : decode cX5_keys 0 = .ok (.aload_n 0, 1) := by decide +kernel
theorem dX5_keys_1 : decode cX5_keys 1 = .ok (.iload_n 1, 1) := by decide +kernel
theorem dX5_keys_2 : decode cX5_keys 2 = .ok (.invokevirtual 163, 3) := by decide +kernel
theorem dX5_keys_5 : decode cX5_keys 5 = .ok (.istore_n 2, 1) := by decide +kernel
theorem dX5_keys_6 : decode cX5_keys 6 = .ok (.iload_n 2, 1) := by decide +kernel
theorem dX5_keys_7 : decode cX5_keys 7 = .ok (.bipush (-9), 2) := by decide +kernel
theorem dX5_keys_9 : decode cX5_keys 9 = .ok (.if_icmp .eq 7, 3) := by decide +kernel
theorem dX5_keys_12 : decode cX5_keys 12 = .ok (.iload_n 2, 1) := by decide +kernel
theorem dX5_keys_13 : decode cX5_keys 13 = .ok (.goto 8, 3) := by decide +kernel
theorem dX5_keys_16 : decode cX5_keys 16 = .ok (.aload_n 0, 1) := by decide +kernel
theorem dX5_keys_17 : decode cX5_keys 17 = .ok (.iload_n 1, 1) := by decide +kernel
theorem dX5_keys_18 : decode cX5_keys 18 = .ok (.invokevirtual 170, 3) := by decide +kernel
theorem dX5_keys_21 : decode cX5_keys 21 = .ok (.ireturn, 1) := by decide +kernel
theorem dX5_keyAt_0 : decode cX5_keyAt 0 = .ok (.aload_n 0, 1) := by decide +kernel
theorem dX5_keyAt_1 : decode cX5_keyAt 1 = .ok (.iload_n 1, 1) := by decide +kernel
theorem dX5_keyAt_2 : decode cX5_keyAt 2 = .ok (.invokevirtual 163, 3) := by decide +kernel
theorem dX5_keyAt_5 : decode cX5_keyAt 5 = .ok (.istore_n 3, 1) := by decide +kernel
theorem dX5_keyAt_6 : decode cX5_keyAt 6 = .ok (.iload_n 3, 1) := by decide +kernel
theorem dX5_keyAt_7 : decode cX5_keyAt 7 = .ok (.bipush (-9), 2) := by decide +kernel
theorem dX5_keyAt_9 : decode cX5_keyAt 9 = .ok (.if_icmp .eq 5, 3) := by decide +kernel
theorem dX5_keyAt_12 : decode cX5_keyAt 12 = .ok (.iload_n 3, 1) := by decide +kernel
theorem dX5_keyAt_13 : decode cX5_keyAt 13 = .ok (.ireturn, 1) := by decide +kernel
theorem dX5_keyAt_14 : decode cX5_keyAt 14 = .ok (.iload_n 2, 1) := by decide +kernel
theorem dX5_keyAt_15 : decode cX5_keyAt 15 = .ok (.ifCond .lt 23, 3) := by decide +kernel
theorem dX5_keyAt_18 : decode cX5_keyAt 18 = .ok (.iload_n 2, 1) := by decide +kernel
theorem dX5_keyAt_19 : decode cX5_keyAt 19 = .ok (.aload_n 0, 1) := by decide +kernel
theorem dX5_keyAt_20 : decode cX5_keyAt 20 = .ok (.iload_n 1, 1) := by decide +kernel
theorem dX5_keyAt_21 : decode cX5_keyAt 21 = .ok (.invokevirtual 170, 3) := by decide +kernel
theorem dX5_keyAt_24 : decode cX5_keyAt 24 = .ok (.if_icmp .ge 14, 3) := by decide +kernel
theorem dX5_keyAt_27 : decode cX5_keyAt 27 = .ok (.aload_n 0, 1) := by decide +kernel
theorem dX5_keyAt_28 : decode cX5_keyAt 28 = .ok (.getfield 32, 3) := by decide +kernel
theorem dX5_keyAt_31 : decode cX5_keyAt 31 = .ok (.iload_n 2, 1) := by decide +kernel
theorem dX5_keyAt_32 : decode cX5_keyAt 32 = .ok (.invokevirtual 151, 3) := by decide +kernel
theorem dX5_keyAt_35 : decode cX5_keyAt 35 = .ok (.goto 5, 3) := by decide +kernel
theorem dX5_keyAt_38 : decode cX5_keyAt 38 = .ok (.bipush (-9), 2) := by decide +kernel
theorem dX5_keyAt_40 : decode cX5_keyAt 40 = .ok (.ireturn, 1) := by decide +kernel
theorem dX5_odds_0 : decode cX5_odds 0 = .ok (.aload_n 0, 1) := by decide +kernel
theorem dX5_odds_1 : decode cX5_odds 1 = .ok (.getfield 32, 3) := by decide +kernel
theorem dX5_odds_4 : decode cX5_odds 4 = .ok (.aload_n 0, 1) := by decide +kernel
theorem dX5_odds_5 : decode cX5_odds 5 = .ok (.getfield 19, 3) := by decide +kernel
theorem dX5_odds_8 : decode cX5_odds 8 = .ok (.invokevirtual 136, 3) := by decide +kernel
theorem dX5_odds_11 : decode cX5_odds 11 = .ok (.istore_n 2, 1) := by decide +kernel
theorem dX5_odds_12 : decode cX5_odds 12 = .ok (.iload_n 2, 1) := by decide +kernel
theorem dX5_odds_13 : decode cX5_odds 13 = .ok (.iconst 1, 1) := by decide +kernel
theorem dX5_odds_14 : decode cX5_odds 14 = .ok (.if_icmp .ge 6, 3) := by decide +kernel
theorem dX5_odds_17 : decode cX5_odds 17 = .ok (.bipush (-3), 2) := by decide +kernel
theorem dX5_odds_19 : decode cX5_odds 19 = .ok (.ireturn, 1) := by decide +kernel
theorem dX5_odds_20 : decode cX5_odds 20 = .ok (.aload_n 0, 1) := by decide +kernel
theorem dX5_odds_21 : decode cX5_odds 21 = .ok (.getfield 32, 3) := by decide +kernel
theorem dX5_odds_24 : decode cX5_odds 24 = .ok (.getfield 173, 3) := by decide +kernel
theorem dX5_odds_27 : decode cX5_odds 27 = .ok (.aload_n 0, 1) := by decide +kernel
theorem dX5_odds_28 : decode cX5_odds 28 = .ok (.getfield 32, 3) := by decide +kernel
theorem dX5_odds_31 : decode cX5_odds 31 = .ok (.iconst 1, 1) := by decide +kernel
theorem dX5_odds_32 : decode cX5_odds 32 = .ok (.aload_n 0, 1) := by decide +kernel
theorem dX5_odds_33 : decode cX5_odds 33 = .ok (.getfield 32, 3) := by decide +kernel
theorem dX5_odds_36 : decode cX5_odds 36 = .ok (.getfield 100, 3) := by decide +kernel
theorem dX5_odds_39 : decode cX5_odds 39 = .ok (.isub, 1) := by decide +kernel
theorem dX5_odds_40 : decode cX5_odds 40 = .ok (.invokevirtual 176, 3) := by decide +kernel
theorem dX5_odds_43 : decode cX5_odds 43 = .ok (.iand, 1) := by decide +kernel
theorem dX5_odds_44 : decode cX5_odds 44 = .ok (.istore_n 3, 1) := by decide +kernel
theorem dX5_odds_45 : decode cX5_odds 45 = .ok (.iconst 0, 1) := by decide +kernel
theorem dX5_odds_46 : decode cX5_odds 46 = .ok (.istore 4, 2) := by decide +kernel
theorem dX5_odds_48 : decode cX5_odds 48 = .ok (.iconst 0, 1) := by decide +kernel
theorem dX5_odds_49 : decode cX5_odds 49 = .ok (.istore 5, 2) := by decide +kernel
theorem dX5_odds_51 : decode cX5_odds 51 = .ok (.iload 5, 2) := by decide +kernel
theorem dX5_odds_53 : decode cX5_odds 53 = .ok (.iload_n 2, 1) := by decide +kernel
theorem dX5_odds_54 : decode cX5_odds 54 = .ok (.if_icmp .ge 42, 3) := by decide +kernel
theorem dX5_odds_57 : decode cX5_odds 57 = .ok (.aload_n 0, 1) := by decide +kernel
theorem dX5_odds_58 : decode cX5_odds 58 = .ok (.getfield 32, 3) := by decide +kernel
theorem dX5_odds_61 : decode cX5_odds 61 = .ok (.iload 5, 2) := by decide +kernel
theorem dX5_odds_63 : decode cX5_odds 63 = .ok (.invokevirtual 151, 3) := by decide +kernel
theorem dX5_odds_66 : decode cX5_odds 66 = .ok (.istore 6, 2) := by decide +kernel
theorem dX5_odds_68 : decode cX5_odds 68 = .ok (.iload 6, 2) := by decide +kernel
theorem dX5_odds_70 : decode cX5_odds 70 = .ok (.bipush (-9), 2) := by decide +kernel
theorem dX5_odds_72 : decode cX5_odds 72 = .ok (.if_icmp .eq 18, 3) := by decide +kernel
theorem dX5_odds_75 : decode cX5_odds 75 = .ok (.iload_n 3, 1) := by decide +kernel
theorem dX5_odds_76 : decode cX5_odds 76 = .ok (.iload 6, 2) := by decide +kernel
theorem dX5_odds_78 : decode cX5_odds 78 = .ok (.bipush 100, 2) := by decide +kernel
theorem dX5_odds_80 : decode cX5_odds 80 = .ok (.irem, 1) := by decide +kernel
theorem dX5_odds_81 : decode cX5_odds 81 = .ok (.invokestatic 118, 3) := by decide +kernel
theorem dX5_odds_84 : decode cX5_odds 84 = .ok (.ifCond .eq 6, 3) := by decide +kernel
theorem dX5_odds_87 : decode cX5_odds 87 = .ok (.iinc 4 1, 3) := by decide +kernel
theorem dX5_odds_90 : decode cX5_odds 90 = .ok (.iinc 5 1, 3) := by decide +kernel
theorem dX5_odds_93 : decode cX5_odds 93 = .ok (.goto (-42), 3) := by decide +kernel
theorem dX5_odds_96 : decode cX5_odds 96 = .ok (.iload_n 2, 1) := by decide +kernel
theorem dX5_odds_97 : decode cX5_odds 97 = .ok (.iload 4, 2) := by decide +kernel
theorem dX5_odds_99 : decode cX5_odds 99 = .ok (.invokestatic 179, 3) := by decide +kernel
theorem dX5_odds_102 : decode cX5_odds 102 = .ok (.istore 5, 2) := by decide +kernel
theorem dX5_odds_104 : decode cX5_odds 104 = .ok (.iload 5, 2) := by decide +kernel
theorem dX5_odds_106 : decode cX5_odds 106 = .ok (.iconst 1, 1) := by decide +kernel
theorem dX5_odds_107 : decode cX5_odds 107 = .ok (.if_icmp .ge 6, 3) := by decide +kernel
theorem dX5_odds_110 : decode cX5_odds 110 = .ok (.bipush (-3), 2) := by decide +kernel
theorem dX5_odds_112 : decode cX5_odds 112 = .ok (.ireturn, 1) := by decide +kernel
theorem dX5_odds_113 : decode cX5_odds 113 = .ok (.iload_n 1, 1) := by decide +kernel
theorem dX5_odds_114 : decode cX5_odds 114 = .ok (.ifCond .eq 8, 3) := by decide +kernel
theorem dX5_odds_117 : decode cX5_odds 117 = .ok (.iload 4, 2) := by decide +kernel
theorem dX5_odds_119 : decode cX5_odds 119 = .ok (.goto 4, 3) := by decide +kernel
theorem dX5_odds_122 : decode cX5_odds 122 = .ok (.iload_n 2, 1) := by decide +kernel
theorem dX5_odds_123 : decode cX5_odds 123 = .ok (.iload 5, 2) := by decide +kernel
theorem dX5_odds_125 : decode cX5_odds 125 = .ok (.idiv, 1) := by decide +kernel
theorem dX5_odds_126 : decode cX5_odds 126 = .ok (.ireturn, 1) := by decide +kernel
theorem dX5_parts_0 : decode cX5_parts 0 = .ok (.aload_n 0, 1) := by decide +kernel
theorem dX5_parts_1 : decode cX5_parts 1 = .ok (.iconst 0, 1) := by decide +kernel
theorem dX5_parts_2 : decode cX5_parts 2 = .ok (.invokevirtual 183, 3) := by decide +kernel
theorem dX5_parts_5 : decode cX5_parts 5 = .ok (.ireturn, 1) := by decide +kernel
theorem dX5_part_0 : decode cX5_part 0 = .ok (.aload_n 0, 1) := by decide +kernel
theorem dX5_part_1 : decode cX5_part 1 = .ok (.iload_n 1, 1) := by decide +kernel
theorem dX5_part_2 : decode cX5_part 2 = .ok (.invokevirtual 105, 3) := by decide +kernel
theorem dX5_part_5 : decode cX5_part 5 = .ok (.ifCond .ne 5, 3) := by decide +kernel
theorem dX5_part_8 : decode cX5_part 8 = .ok (.iconst (-1), 1) := by decide +kernel
theorem dX5_part_9 : decode cX5_part 9 = .ok (.ireturn, 1) := by decide +kernel
theorem dX5_part_10 : decode cX5_part 10 = .ok (.aload_n 0, 1) := by decide +kernel
theorem dX5_part_11 : decode cX5_part 11 = .ok (.getfield 32, 3) := by decide +kernel
theorem dX5_part_14 : decode cX5_part 14 = .ok (.getfield 115, 3) := by decide +kernel
theorem dX5_part_17 : decode cX5_part 17 = .ok (.iload_n 1, 1) := by decide +kernel
theorem dX5_part_18 : decode cX5_part 18 = .ok (.invokestatic 118, 3) := by decide +kernel
theorem dX5_part_21 : decode cX5_part 21 = .ok (.ifCond .eq 8, 3) := by decide +kernel
theorem dX5_part_24 : decode cX5_part 24 = .ok (.bipush (-9), 2) := by decide +kernel
theorem dX5_part_26 : decode cX5_part 26 = .ok (.goto 10, 3) := by decide +kernel
theorem dX5_part_29 : decode cX5_part 29 = .ok (.aload_n 0, 1) := by decide +kernel
theorem dX5_part_30 : decode cX5_part 30 = .ok (.iconst 1, 1) := by decide +kernel
theorem dX5_part_31 : decode cX5_part 31 = .ok (.iload_n 1, 1) := by decide +kernel
theorem dX5_part_32 : decode cX5_part 32 = .ok (.ishl, 1) := by decide +kernel
theorem dX5_part_33 : decode cX5_part 33 = .ok (.invokevirtual 183, 3) := by decide +kernel
theorem dX5_part_36 : decode cX5_part 36 = .ok (.ireturn, 1) := by decide +kernel
theorem dX5_comes_0 : decode cX5_comes 0 = .ok (.aload_n 0, 1) := by decide +kernel
theorem dX5_comes_1 : decode cX5_comes 1 = .ok (.iload_n 1, 1) := by decide +kernel
theorem dX5_comes_2 : decode cX5_comes 2 = .ok (.invokevirtual 105, 3) := by decide +kernel
theorem dX5_comes_5 : decode cX5_comes 5 = .ok (.ifCond .eq 29, 3) := by decide +kernel
theorem dX5_comes_8 : decode cX5_comes 8 = .ok (.aload_n 0, 1) := by decide +kernel
theorem dX5_comes_9 : decode cX5_comes 9 = .ok (.getfield 19, 3) := by decide +kernel
theorem dX5_comes_12 : decode cX5_comes 12 = .ok (.aload_n 0, 1) := by decide +kernel
theorem dX5_comes_13 : decode cX5_comes 13 = .ok (.getfield 32, 3) := by decide +kernel
theorem dX5_comes_16 : decode cX5_comes 16 = .ok (.iload_n 1, 1) := by decide +kernel
theorem dX5_comes_17 : decode cX5_comes 17 = .ok (.invokevirtual 109, 3) := by decide +kernel
theorem dX5_comes_20 : decode cX5_comes 20 = .ok (.iload_n 1, 1) := by decide +kernel
theorem dX5_comes_21 : decode cX5_comes 21 = .ok (.aload_n 0, 1) := by decide +kernel
theorem dX5_comes_22 : decode cX5_comes 22 = .ok (.getfield 32, 3) := by decide +kernel
theorem dX5_comes_25 : decode cX5_comes 25 = .ok (.getfield 115, 3) := by decide +kernel
theorem dX5_comes_28 : decode cX5_comes 28 = .ok (.invokevirtual 186, 3) := by decide +kernel
theorem dX5_comes_31 : decode cX5_comes 31 = .ok (.goto 4, 3) := by decide +kernel
theorem dX5_comes_34 : decode cX5_comes 34 = .ok (.iconst (-1), 1) := by decide +kernel
theorem dX5_comes_35 : decode cX5_comes 35 = .ok (.ireturn, 1) := by decide +kernel
theorem dX5_comesAt_0 : decode cX5_comesAt 0 = .ok (.aload_n 0, 1) := by decide +kernel
theorem dX5_comesAt_1 : decode cX5_comesAt 1 = .ok (.iload_n 1, 1) := by decide +kernel
theorem dX5_comesAt_2 : decode cX5_comesAt 2 = .ok (.invokevirtual 105, 3) := by decide +kernel
theorem dX5_comesAt_5 : decode cX5_comesAt 5 = .ok (.ifCond .eq 11, 3) := by decide +kernel
theorem dX5_comesAt_8 : decode cX5_comesAt 8 = .ok (.aload_n 0, 1) := by decide +kernel
theorem dX5_comesAt_9 : decode cX5_comesAt 9 = .ok (.iload_n 2, 1) := by decide +kernel
theorem dX5_comesAt_10 : decode cX5_comesAt 10 = .ok (.invokevirtual 105, 3) := by decide +kernel
theorem dX5_comesAt_13 : decode cX5_comesAt 13 = .ok (.ifCond .ne 5, 3) := by decide +kernel
theorem dX5_comesAt_16 : decode cX5_comesAt 16 = .ok (.iconst (-1), 1) := by decide +kernel
theorem dX5_comesAt_17 : decode cX5_comesAt 17 = .ok (.ireturn, 1) := by decide +kernel
theorem dX5_comesAt_18 : decode cX5_comesAt 18 = .ok (.aload_n 0, 1) := by decide +kernel
theorem dX5_comesAt_19 : decode cX5_comesAt 19 = .ok (.getfield 32, 3) := by decide +kernel
theorem dX5_comesAt_22 : decode cX5_comesAt 22 = .ok (.iload_n 1, 1) := by decide +kernel
theorem dX5_comesAt_23 : decode cX5_comesAt 23 = .ok (.invokevirtual 109, 3) := by decide +kernel
theorem dX5_comesAt_26 : decode cX5_comesAt 26 = .ok (.invokestatic 189, 3) := by decide +kernel
theorem dX5_comesAt_29 : decode cX5_comesAt 29 = .ok (.istore_n 3, 1) := by decide +kernel
theorem dX5_comesAt_30 : decode cX5_comesAt 30 = .ok (.iload_n 3, 1) := by decide +kernel
theorem dX5_comesAt_31 : decode cX5_comesAt 31 = .ok (.bipush (-9), 2) := by decide +kernel
theorem dX5_comesAt_33 : decode cX5_comesAt 33 = .ok (.if_icmp .eq 20, 3) := by decide +kernel
theorem dX5_comesAt_36 : decode cX5_comesAt 36 = .ok (.aload_n 0, 1) := by decide +kernel
theorem dX5_comesAt_37 : decode cX5_comesAt 37 = .ok (.getfield 32, 3) := by decide +kernel
theorem dX5_comesAt_40 : decode cX5_comesAt 40 = .ok (.iconst 1, 1) := by decide +kernel
theorem dX5_comesAt_41 : decode cX5_comesAt 41 = .ok (.iload_n 3, 1) := by decide +kernel
theorem dX5_comesAt_42 : decode cX5_comesAt 42 = .ok (.isub, 1) := by decide +kernel
theorem dX5_comesAt_43 : decode cX5_comesAt 43 = .ok (.invokevirtual 176, 3) := by decide +kernel
theorem dX5_comesAt_46 : decode cX5_comesAt 46 = .ok (.iload_n 2, 1) := by decide +kernel
theorem dX5_comesAt_47 : decode cX5_comesAt 47 = .ok (.invokestatic 118, 3) := by decide +kernel
theorem dX5_comesAt_50 : decode cX5_comesAt 50 = .ok (.ifCond .ne 6, 3) := by decide +kernel
theorem dX5_comesAt_53 : decode cX5_comesAt 53 = .ok (.bipush (-3), 2) := by decide +kernel
theorem dX5_comesAt_55 : decode cX5_comesAt 55 = .ok (.ireturn, 1) := by decide +kernel
theorem dX5_comesAt_56 : decode cX5_comesAt 56 = .ok (.aload_n 0, 1) := by decide +kernel
theorem dX5_comesAt_57 : decode cX5_comesAt 57 = .ok (.iconst 1, 1) := by decide +kernel
theorem dX5_comesAt_58 : decode cX5_comesAt 58 = .ok (.iload_n 1, 1) := by decide +kernel
theorem dX5_comesAt_59 : decode cX5_comesAt 59 = .ok (.ishl, 1) := by decide +kernel
theorem dX5_comesAt_60 : decode cX5_comesAt 60 = .ok (.iconst 1, 1) := by decide +kernel
theorem dX5_comesAt_61 : decode cX5_comesAt 61 = .ok (.iload_n 2, 1) := by decide +kernel
theorem dX5_comesAt_62 : decode cX5_comesAt 62 = .ok (.ishl, 1) := by decide +kernel
theorem dX5_comesAt_63 : decode cX5_comesAt 63 = .ok (.invokevirtual 192, 3) := by decide +kernel
theorem dX5_comesAt_66 : decode cX5_comesAt 66 = .ok (.ifCond .eq 7, 3) := by decide +kernel
theorem dX5_comesAt_69 : decode cX5_comesAt 69 = .ok (.iconst 1, 1) := by decide +kernel
theorem dX5_comesAt_70 : decode cX5_comesAt 70 = .ok (.goto 4, 3) := by decide +kernel
theorem dX5_comesAt_73 : decode cX5_comesAt 73 = .ok (.iconst 0, 1) := by decide +kernel
theorem dX5_comesAt_74 : decode cX5_comesAt 74 = .ok (.ireturn, 1) := by decide +kernel
theorem dX5_shut_0 : decode cX5_shut 0 = .ok (.aload_n 0, 1) := by decide +kernel
theorem dX5_shut_1 : decode cX5_shut 1 = .ok (.aload_n 0, 1) := by decide +kernel
theorem dX5_shut_2 : decode cX5_shut 2 = .ok (.getfield 32, 3) := by decide +kernel
theorem dX5_shut_5 : decode cX5_shut 5 = .ok (.getfield 195, 3) := by decide +kernel
theorem dX5_shut_8 : decode cX5_shut 8 = .ok (.aload_n 0, 1) := by decide +kernel
theorem dX5_shut_9 : decode cX5_shut 9 = .ok (.getfield 32, 3) := by decide +kernel
theorem dX5_shut_12 : decode cX5_shut 12 = .ok (.getfield 198, 3) := by decide +kernel
theorem dX5_shut_15 : decode cX5_shut 15 = .ok (.invokevirtual 192, 3) := by decide +kernel
theorem dX5_shut_18 : decode cX5_shut 18 = .ok (.ifCond .ne 24, 3) := by decide +kernel
theorem dX5_shut_21 : decode cX5_shut 21 = .ok (.aload_n 0, 1) := by decide +kernel
theorem dX5_shut_22 : decode cX5_shut 22 = .ok (.aload_n 0, 1) := by decide +kernel
theorem dX5_shut_23 : decode cX5_shut 23 = .ok (.getfield 32, 3) := by decide +kernel
theorem dX5_shut_26 : decode cX5_shut 26 = .ok (.getfield 198, 3) := by decide +kernel
theorem dX5_shut_29 : decode cX5_shut 29 = .ok (.aload_n 0, 1) := by decide +kernel
theorem dX5_shut_30 : decode cX5_shut 30 = .ok (.getfield 32, 3) := by decide +kernel
theorem dX5_shut_33 : decode cX5_shut 33 = .ok (.getfield 195, 3) := by decide +kernel
theorem dX5_shut_36 : decode cX5_shut 36 = .ok (.invokevirtual 192, 3) := by decide +kernel
theorem dX5_shut_39 : decode cX5_shut 39 = .ok (.ifCond .eq 7, 3) := by decide +kernel
theorem dX5_shut_42 : decode cX5_shut 42 = .ok (.iconst 0, 1) := by decide +kernel
theorem dX5_shut_43 : decode cX5_shut 43 = .ok (.goto 4, 3) := by decide +kernel
theorem dX5_shut_46 : decode cX5_shut 46 = .ok (.iconst 1, 1) := by decide +kernel
theorem dX5_shut_47 : decode cX5_shut 47 = .ok (.ireturn, 1) := by decide +kernel
theorem dX5_ways_0 : decode cX5_ways 0 = .ok (.iload_n 1, 1) := by decide +kernel
theorem dX5_ways_1 : decode cX5_ways 1 = .ok (.invokestatic 201, 3) := by decide +kernel
theorem dX5_ways_4 : decode cX5_ways 4 = .ok (.ifCond .ne 5, 3) := by decide +kernel
theorem dX5_ways_7 : decode cX5_ways 7 = .ok (.iconst (-1), 1) := by decide +kernel
theorem dX5_ways_8 : decode cX5_ways 8 = .ok (.ireturn, 1) := by decide +kernel
theorem dX5_ways_9 : decode cX5_ways 9 = .ok (.iload_n 2, 1) := by decide +kernel
theorem dX5_ways_10 : decode cX5_ways 10 = .ok (.iconst 1, 1) := by decide +kernel
theorem dX5_ways_11 : decode cX5_ways 11 = .ok (.if_icmp .lt 8, 3) := by decide +kernel
theorem dX5_ways_14 : decode cX5_ways 14 = .ok (.iload_n 2, 1) := by decide +kernel
theorem dX5_ways_15 : decode cX5_ways 15 = .ok (.iconst 3, 1) := by decide +kernel
theorem dX5_ways_16 : decode cX5_ways 16 = .ok (.if_icmp .le 6, 3) := by decide +kernel
theorem dX5_ways_19 : decode cX5_ways 19 = .ok (.bipush (-2), 2) := by decide +kernel
theorem dX5_ways_21 : decode cX5_ways 21 = .ok (.ireturn, 1) := by decide +kernel
theorem dX5_ways_22 : decode cX5_ways 22 = .ok (.aload_n 0, 1) := by decide +kernel
theorem dX5_ways_23 : decode cX5_ways 23 = .ok (.getfield 50, 3) := by decide +kernel
theorem dX5_ways_26 : decode cX5_ways 26 = .ok (.iload_n 1, 1) := by decide +kernel
theorem dX5_ways_27 : decode cX5_ways 27 = .ok (.invokevirtual 204, 3) := by decide +kernel
theorem dX5_ways_30 : decode cX5_ways 30 = .ok (.ifCond .ne 6, 3) := by decide +kernel
theorem dX5_ways_33 : decode cX5_ways 33 = .ok (.bipush (-3), 2) := by decide +kernel
theorem dX5_ways_35 : decode cX5_ways 35 = .ok (.ireturn, 1) := by decide +kernel
theorem dX5_ways_36 : decode cX5_ways 36 = .ok (.aload_n 0, 1) := by decide +kernel
theorem dX5_ways_37 : decode cX5_ways 37 = .ok (.getfield 50, 3) := by decide +kernel
theorem dX5_ways_40 : decode cX5_ways 40 = .ok (.iload_n 1, 1) := by decide +kernel
theorem dX5_ways_41 : decode cX5_ways 41 = .ok (.aload_n 0, 1) := by decide +kernel
theorem dX5_ways_42 : decode cX5_ways 42 = .ok (.getfield 35, 3) := by decide +kernel
theorem dX5_ways_45 : decode cX5_ways 45 = .ok (.invokevirtual 207, 3) := by decide +kernel
theorem dX5_ways_48 : decode cX5_ways 48 = .ok (.aload_n 0, 1) := by decide +kernel
theorem dX5_ways_49 : decode cX5_ways 49 = .ok (.getfield 32, 3) := by decide +kernel
theorem dX5_ways_52 : decode cX5_ways 52 = .ok (.getfield 100, 3) := by decide +kernel
theorem dX5_ways_55 : decode cX5_ways 55 = .ok (.iload_n 2, 1) := by decide +kernel
theorem dX5_ways_56 : decode cX5_ways 56 = .ok (.iadd, 1) := by decide +kernel
theorem dX5_ways_57 : decode cX5_ways 57 = .ok (.iconst 2, 1) := by decide +kernel
theorem dX5_ways_58 : decode cX5_ways 58 = .ok (.irem, 1) := by decide +kernel
theorem dX5_ways_59 : decode cX5_ways 59 = .ok (.aload_n 0, 1) := by decide +kernel
theorem dX5_ways_60 : decode cX5_ways 60 = .ok (.getfield 35, 3) := by decide +kernel
theorem dX5_ways_63 : decode cX5_ways 63 = .ok (.getfield 100, 3) := by decide +kernel
theorem dX5_ways_66 : decode cX5_ways 66 = .ok (.if_icmp .ne 22, 3) := by decide +kernel
theorem dX5_ways_69 : decode cX5_ways 69 = .ok (.aload_n 0, 1) := by decide +kernel
theorem dX5_ways_70 : decode cX5_ways 70 = .ok (.getfield 19, 3) := by decide +kernel
theorem dX5_ways_73 : decode cX5_ways 73 = .ok (.aload_n 0, 1) := by decide +kernel
theorem dX5_ways_74 : decode cX5_ways 74 = .ok (.getfield 32, 3) := by decide +kernel
theorem dX5_ways_77 : decode cX5_ways 77 = .ok (.aload_n 0, 1) := by decide +kernel
theorem dX5_ways_78 : decode cX5_ways 78 = .ok (.getfield 35, 3) := by decide +kernel
theorem dX5_ways_81 : decode cX5_ways 81 = .ok (.iload_n 2, 1) := by decide +kernel
theorem dX5_ways_82 : decode cX5_ways 82 = .ok (.invokestatic 211, 3) := by decide +kernel
theorem dX5_ways_85 : decode cX5_ways 85 = .ok (.goto 4, 3) := by decide +kernel
theorem dX5_ways_88 : decode cX5_ways 88 = .ok (.iconst 0, 1) := by decide +kernel
theorem dX5_ways_89 : decode cX5_ways 89 = .ok (.ireturn, 1) := by decide +kernel
theorem dX5_seed_0 : decode cX5_seed 0 = .ok (.aload_n 0, 1) := by decide +kernel
theorem dX5_seed_1 : decode cX5_seed 1 = .ok (.getfield 54, 3) := by decide +kernel
theorem dX5_seed_4 : decode cX5_seed 4 = .ok (.lstore_n 3, 1) := by decide +kernel
theorem dX5_seed_5 : decode cX5_seed 5 = .ok (.aload_n 0, 1) := by decide +kernel
theorem dX5_seed_6 : decode cX5_seed 6 = .ok (.lload_n 1, 1) := by decide +kernel
theorem dX5_seed_7 : decode cX5_seed 7 = .ok (.putfield 54, 3) := by decide +kernel
theorem dX5_seed_10 : decode cX5_seed 10 = .ok (.lload_n 3, 1) := by decide +kernel
theorem dX5_seed_11 : decode cX5_seed 11 = .ok (.lreturn, 1) := by decide +kernel
theorem dX5_play_0 : decode cX5_play 0 = .ok (.iload_n 1, 1) := by decide +kernel
theorem dX5_play_1 : decode cX5_play 1 = .ok (.iconst 1, 1) := by decide +kernel
theorem dX5_play_2 : decode cX5_play 2 = .ok (.if_icmp .lt 9, 3) := by decide +kernel
theorem dX5_play_5 : decode cX5_play 5 = .ok (.iload_n 1, 1) := by decide +kernel
theorem dX5_play_6 : decode cX5_play 6 = .ok (.bipush 40, 2) := by decide +kernel
theorem dX5_play_8 : decode cX5_play 8 = .ok (.if_icmp .le 6, 3) := by decide +kernel
theorem dX5_play_11 : decode cX5_play 11 = .ok (.bipush (-2), 2) := by decide +kernel
theorem dX5_play_13 : decode cX5_play 13 = .ok (.ireturn, 1) := by decide +kernel
theorem dX5_play_14 : decode cX5_play 14 = .ok (.aload_n 0, 1) := by decide +kernel
theorem dX5_play_15 : decode cX5_play 15 = .ok (.getfield 28, 3) := by decide +kernel
theorem dX5_play_18 : decode cX5_play 18 = .ok (.aload_n 0, 1) := by decide +kernel
theorem dX5_play_19 : decode cX5_play 19 = .ok (.getfield 32, 3) := by decide +kernel
theorem dX5_play_22 : decode cX5_play 22 = .ok (.invokevirtual 160, 3) := by decide +kernel
theorem dX5_play_25 : decode cX5_play 25 = .ok (.iconst 0, 1) := by decide +kernel
theorem dX5_play_26 : decode cX5_play 26 = .ok (.istore_n 2, 1) := by decide +kernel
theorem dX5_play_27 : decode cX5_play 27 = .ok (.iload_n 2, 1) := by decide +kernel
theorem dX5_play_28 : decode cX5_play 28 = .ok (.iload_n 1, 1) := by decide +kernel
theorem dX5_play_29 : decode cX5_play 29 = .ok (.if_icmp .ge 77, 3) := by decide +kernel
theorem dX5_play_32 : decode cX5_play 32 = .ok (.aload_n 0, 1) := by decide +kernel
theorem dX5_play_33 : decode cX5_play 33 = .ok (.getfield 28, 3) := by decide +kernel
theorem dX5_play_36 : decode cX5_play 36 = .ok (.aload_n 0, 1) := by decide +kernel
theorem dX5_play_37 : decode cX5_play 37 = .ok (.getfield 19, 3) := by decide +kernel
theorem dX5_play_40 : decode cX5_play 40 = .ok (.invokevirtual 136, 3) := by decide +kernel
theorem dX5_play_43 : decode cX5_play 43 = .ok (.istore_n 3, 1) := by decide +kernel
theorem dX5_play_44 : decode cX5_play 44 = .ok (.iload_n 3, 1) := by decide +kernel
theorem dX5_play_45 : decode cX5_play 45 = .ok (.iconst 1, 1) := by decide +kernel
theorem dX5_play_46 : decode cX5_play 46 = .ok (.if_icmp .ge 6, 3) := by decide +kernel
theorem dX5_play_49 : decode cX5_play 49 = .ok (.goto 57, 3) := by decide +kernel
theorem dX5_play_52 : decode cX5_play 52 = .ok (.aload_n 0, 1) := by decide +kernel
theorem dX5_play_53 : decode cX5_play 53 = .ok (.aload_n 0, 1) := by decide +kernel
theorem dX5_play_54 : decode cX5_play 54 = .ok (.getfield 54, 3) := by decide +kernel
theorem dX5_play_57 : decode cX5_play 57 = .ok (.ldc2_w 215, 3) := by decide +kernel
theorem dX5_play_60 : decode cX5_play 60 = .ok (.lmul, 1) := by decide +kernel
theorem dX5_play_61 : decode cX5_play 61 = .ok (.ldc2_w 217, 3) := by decide +kernel
theorem dX5_play_64 : decode cX5_play 64 = .ok (.ladd, 1) := by decide +kernel
theorem dX5_play_65 : decode cX5_play 65 = .ok (.putfield 54, 3) := by decide +kernel
theorem dX5_play_68 : decode cX5_play 68 = .ok (.aload_n 0, 1) := by decide +kernel
theorem dX5_play_69 : decode cX5_play 69 = .ok (.getfield 28, 3) := by decide +kernel
theorem dX5_play_72 : decode cX5_play 72 = .ok (.aload_n 0, 1) := by decide +kernel
theorem dX5_play_73 : decode cX5_play 73 = .ok (.getfield 28, 3) := by decide +kernel
theorem dX5_play_76 : decode cX5_play 76 = .ok (.aload_n 0, 1) := by decide +kernel
theorem dX5_play_77 : decode cX5_play 77 = .ok (.getfield 54, 3) := by decide +kernel
theorem dX5_play_80 : decode cX5_play 80 = .ok (.bipush 33, 2) := by decide +kernel
theorem dX5_play_82 : decode cX5_play 82 = .ok (.lushr, 1) := by decide +kernel
theorem dX5_play_83 : decode cX5_play 83 = .ok (.iload_n 3, 1) := by decide +kernel
theorem dX5_play_84 : decode cX5_play 84 = .ok (.i2l, 1) := by decide +kernel
theorem dX5_play_85 : decode cX5_play 85 = .ok (.lrem, 1) := by decide +kernel
theorem dX5_play_86 : decode cX5_play 86 = .ok (.l2i, 1) := by decide +kernel
theorem dX5_play_87 : decode cX5_play 87 = .ok (.invokevirtual 151, 3) := by decide +kernel
theorem dX5_play_90 : decode cX5_play 90 = .ok (.aload_n 0, 1) := by decide +kernel
theorem dX5_play_91 : decode cX5_play 91 = .ok (.getfield 19, 3) := by decide +kernel
theorem dX5_play_94 : decode cX5_play 94 = .ok (.getfield 146, 3) := by decide +kernel
theorem dX5_play_97 : decode cX5_play 97 = .ok (.invokevirtual 148, 3) := by decide +kernel
theorem dX5_play_100 : decode cX5_play 100 = .ok (.iinc 2 1, 3) := by decide +kernel
theorem dX5_play_103 : decode cX5_play 103 = .ok (.goto (-76), 3) := by decide +kernel
theorem dX5_play_106 : decode cX5_play 106 = .ok (.aload_n 0, 1) := by decide +kernel
theorem dX5_play_107 : decode cX5_play 107 = .ok (.getfield 28, 3) := by decide +kernel
theorem dX5_play_110 : decode cX5_play 110 = .ok (.invokevirtual 219, 3) := by decide +kernel
theorem dX5_play_113 : decode cX5_play 113 = .ok (.ireturn, 1) := by decide +kernel
theorem dX5_keep_0 : decode cX5_keep 0 = .ok (.iload_n 1, 1) := by decide +kernel
theorem dX5_keep_1 : decode cX5_keep 1 = .ok (.invokestatic 201, 3) := by decide +kernel
theorem dX5_keep_4 : decode cX5_keep 4 = .ok (.ifCond .ne 5, 3) := by decide +kernel
theorem dX5_keep_7 : decode cX5_keep 7 = .ok (.iconst (-1), 1) := by decide +kernel
theorem dX5_keep_8 : decode cX5_keep 8 = .ok (.ireturn, 1) := by decide +kernel
theorem dX5_keep_9 : decode cX5_keep 9 = .ok (.aload_n 0, 1) := by decide +kernel
theorem dX5_keep_10 : decode cX5_keep 10 = .ok (.getfield 50, 3) := by decide +kernel
theorem dX5_keep_13 : decode cX5_keep 13 = .ok (.iload_n 1, 1) := by decide +kernel
theorem dX5_keep_14 : decode cX5_keep 14 = .ok (.aload_n 0, 1) := by decide +kernel
theorem dX5_keep_15 : decode cX5_keep 15 = .ok (.getfield 32, 3) := by decide +kernel
theorem dX5_keep_18 : decode cX5_keep 18 = .ok (.invokevirtual 222, 3) := by decide +kernel
theorem dX5_keep_21 : decode cX5_keep 21 = .ok (.aload_n 0, 1) := by decide +kernel
theorem dX5_keep_22 : decode cX5_keep 22 = .ok (.getfield 32, 3) := by decide +kernel
theorem dX5_keep_25 : decode cX5_keep 25 = .ok (.invokevirtual 219, 3) := by decide +kernel
theorem dX5_keep_28 : decode cX5_keep 28 = .ok (.ireturn, 1) := by decide +kernel
theorem dX5_again_0 : decode cX5_again 0 = .ok (.iload_n 1, 1) := by decide +kernel
theorem dX5_again_1 : decode cX5_again 1 = .ok (.invokestatic 201, 3) := by decide +kernel
theorem dX5_again_4 : decode cX5_again 4 = .ok (.ifCond .ne 5, 3) := by decide +kernel
theorem dX5_again_7 : decode cX5_again 7 = .ok (.iconst (-1), 1) := by decide +kernel
theorem dX5_again_8 : decode cX5_again 8 = .ok (.ireturn, 1) := by decide +kernel
theorem dX5_again_9 : decode cX5_again 9 = .ok (.aload_n 0, 1) := by decide +kernel
theorem dX5_again_10 : decode cX5_again 10 = .ok (.getfield 50, 3) := by decide +kernel
theorem dX5_again_13 : decode cX5_again 13 = .ok (.iload_n 1, 1) := by decide +kernel
theorem dX5_again_14 : decode cX5_again 14 = .ok (.invokevirtual 204, 3) := by decide +kernel
theorem dX5_again_17 : decode cX5_again 17 = .ok (.ifCond .ne 6, 3) := by decide +kernel
theorem dX5_again_20 : decode cX5_again 20 = .ok (.bipush (-3), 2) := by decide +kernel
theorem dX5_again_22 : decode cX5_again 22 = .ok (.ireturn, 1) := by decide +kernel
theorem dX5_again_23 : decode cX5_again 23 = .ok (.aload_n 0, 1) := by decide +kernel
theorem dX5_again_24 : decode cX5_again 24 = .ok (.getfield 50, 3) := by decide +kernel
theorem dX5_again_27 : decode cX5_again 27 = .ok (.iload_n 1, 1) := by decide +kernel
theorem dX5_again_28 : decode cX5_again 28 = .ok (.aload_n 0, 1) := by decide +kernel
theorem dX5_again_29 : decode cX5_again 29 = .ok (.getfield 32, 3) := by decide +kernel
theorem dX5_again_32 : decode cX5_again 32 = .ok (.invokevirtual 207, 3) := by decide +kernel
theorem dX5_again_35 : decode cX5_again 35 = .ok (.aload_n 0, 1) := by decide +kernel
theorem dX5_again_36 : decode cX5_again 36 = .ok (.getfield 41, 3) := by decide +kernel
theorem dX5_again_39 : decode cX5_again 39 = .ok (.invokevirtual 103, 3) := by decide +kernel
theorem dX5_again_42 : decode cX5_again 42 = .ok (.aload_n 0, 1) := by decide +kernel
theorem dX5_again_43 : decode cX5_again 43 = .ok (.getfield 32, 3) := by decide +kernel
theorem dX5_again_46 : decode cX5_again 46 = .ok (.invokevirtual 219, 3) := by decide +kernel
theorem dX5_again_49 : decode cX5_again 49 = .ok (.ireturn, 1) := by decide +kernel
theorem dX5_count_0 : decode cX5_count 0 = .ok (.iload_n 1, 1) := by decide +kernel
theorem dX5_count_1 : decode cX5_count 1 = .ok (.tableswitch 135 0 9 #[55, 63, 71, 79, 87, 95, 103, 111, 119, 127], 55) := by decide +kernel
theorem dX5_count_56 : decode cX5_count 56 = .ok (.aload_n 0, 1) := by decide +kernel
theorem dX5_count_57 : decode cX5_count 57 = .ok (.getfield 12, 3) := by decide +kernel
theorem dX5_count_60 : decode cX5_count 60 = .ok (.getfield 62, 3) := by decide +kernel
theorem dX5_count_63 : decode cX5_count 63 = .ok (.ireturn, 1) := by decide +kernel
theorem dX5_count_64 : decode cX5_count 64 = .ok (.aload_n 0, 1) := by decide +kernel
theorem dX5_count_65 : decode cX5_count 65 = .ok (.getfield 19, 3) := by decide +kernel
theorem dX5_count_68 : decode cX5_count 68 = .ok (.getfield 225, 3) := by decide +kernel
theorem dX5_count_71 : decode cX5_count 71 = .ok (.ireturn, 1) := by decide +kernel
theorem dX5_count_72 : decode cX5_count 72 = .ok (.aload_n 0, 1) := by decide +kernel
theorem dX5_count_73 : decode cX5_count 73 = .ok (.getfield 19, 3) := by decide +kernel
theorem dX5_count_76 : decode cX5_count 76 = .ok (.getfield 227, 3) := by decide +kernel
theorem dX5_count_79 : decode cX5_count 79 = .ok (.ireturn, 1) := by decide +kernel
theorem dX5_count_80 : decode cX5_count 80 = .ok (.aload_n 0, 1) := by decide +kernel
theorem dX5_count_81 : decode cX5_count 81 = .ok (.getfield 19, 3) := by decide +kernel
theorem dX5_count_84 : decode cX5_count 84 = .ok (.getfield 146, 3) := by decide +kernel
theorem dX5_count_87 : decode cX5_count 87 = .ok (.ireturn, 1) := by decide +kernel
theorem dX5_count_88 : decode cX5_count 88 = .ok (.aload_n 0, 1) := by decide +kernel
theorem dX5_count_89 : decode cX5_count 89 = .ok (.getfield 32, 3) := by decide +kernel
theorem dX5_count_92 : decode cX5_count 92 = .ok (.getfield 100, 3) := by decide +kernel
theorem dX5_count_95 : decode cX5_count 95 = .ok (.ireturn, 1) := by decide +kernel
theorem dX5_count_96 : decode cX5_count 96 = .ok (.aload_n 0, 1) := by decide +kernel
theorem dX5_count_97 : decode cX5_count 97 = .ok (.getfield 32, 3) := by decide +kernel
theorem dX5_count_100 : decode cX5_count 100 = .ok (.getfield 195, 3) := by decide +kernel
theorem dX5_count_103 : decode cX5_count 103 = .ok (.ireturn, 1) := by decide +kernel
theorem dX5_count_104 : decode cX5_count 104 = .ok (.aload_n 0, 1) := by decide +kernel
theorem dX5_count_105 : decode cX5_count 105 = .ok (.getfield 32, 3) := by decide +kernel
theorem dX5_count_108 : decode cX5_count 108 = .ok (.getfield 198, 3) := by decide +kernel
theorem dX5_count_111 : decode cX5_count 111 = .ok (.ireturn, 1) := by decide +kernel
theorem dX5_count_112 : decode cX5_count 112 = .ok (.aload_n 0, 1) := by decide +kernel
theorem dX5_count_113 : decode cX5_count 113 = .ok (.getfield 32, 3) := by decide +kernel
theorem dX5_count_116 : decode cX5_count 116 = .ok (.getfield 115, 3) := by decide +kernel
theorem dX5_count_119 : decode cX5_count 119 = .ok (.ireturn, 1) := by decide +kernel
theorem dX5_count_120 : decode cX5_count 120 = .ok (.aload_n 0, 1) := by decide +kernel
theorem dX5_count_121 : decode cX5_count 121 = .ok (.getfield 41, 3) := by decide +kernel
theorem dX5_count_124 : decode cX5_count 124 = .ok (.getfield 154, 3) := by decide +kernel
theorem dX5_count_127 : decode cX5_count 127 = .ok (.ireturn, 1) := by decide +kernel
theorem dX5_count_128 : decode cX5_count 128 = .ok (.aload_n 0, 1) := by decide +kernel
theorem dX5_count_129 : decode cX5_count 129 = .ok (.getfield 32, 3) := by decide +kernel
theorem dX5_count_132 : decode cX5_count 132 = .ok (.getfield 229, 3) := by decide +kernel
theorem dX5_count_135 : decode cX5_count 135 = .ok (.ireturn, 1) := by decide +kernel
theorem dX5_count_136 : decode cX5_count 136 = .ok (.bipush (-2), 2) := by decide +kernel
theorem dX5_count_138 : decode cX5_count 138 = .ok (.ireturn, 1) := by decide +kernel
theorem dX5_isCell_0 : decode cX5_isCell 0 = .ok (.iload_n 1, 1) := by decide +kernel
theorem dX5_isCell_1 : decode cX5_isCell 1 = .ok (.ifCond .lt 18, 3) := by decide +kernel
theorem dX5_isCell_4 : decode cX5_isCell 4 = .ok (.iload_n 1, 1) := by decide +kernel
theorem dX5_isCell_5 : decode cX5_isCell 5 = .ok (.aload_n 0, 1) := by decide +kernel
theorem dX5_isCell_6 : decode cX5_isCell 6 = .ok (.getfield 19, 3) := by decide +kernel
theorem dX5_isCell_9 : decode cX5_isCell 9 = .ok (.getfield 86, 3) := by decide +kernel
theorem dX5_isCell_12 : decode cX5_isCell 12 = .ok (.if_icmp .ge 7, 3) := by decide +kernel
theorem dX5_isCell_15 : decode cX5_isCell 15 = .ok (.iconst 1, 1) := by decide +kernel
theorem dX5_isCell_16 : decode cX5_isCell 16 = .ok (.goto 4, 3) := by decide +kernel
theorem dX5_isCell_19 : decode cX5_isCell 19 = .ok (.iconst 0, 1) := by decide +kernel
theorem dX5_isCell_20 : decode cX5_isCell 20 = .ok (.ireturn, 1) := by decide +kernel
theorem dX5_isSlot_0 : decode cX5_isSlot 0 = .ok (.iload_n 0, 1) := by decide +kernel
theorem dX5_isSlot_1 : decode cX5_isSlot 1 = .ok (.ifCond .lt 12, 3) := by decide +kernel
theorem dX5_isSlot_4 : decode cX5_isSlot 4 = .ok (.iload_n 0, 1) := by decide +kernel
theorem dX5_isSlot_5 : decode cX5_isSlot 5 = .ok (.iconst 2, 1) := by decide +kernel
theorem dX5_isSlot_6 : decode cX5_isSlot 6 = .ok (.if_icmp .ge 7, 3) := by decide +kernel
theorem dX5_isSlot_9 : decode cX5_isSlot 9 = .ok (.iconst 1, 1) := by decide +kernel
theorem dX5_isSlot_10 : decode cX5_isSlot 10 = .ok (.goto 4, 3) := by decide +kernel
theorem dX5_isSlot_13 : decode cX5_isSlot 13 = .ok (.iconst 0, 1) := by decide +kernel
theorem dX5_isSlot_14 : decode cX5_isSlot 14 = .ok (.ireturn, 1) := by decide +kernel
theorem dX5_refusedAhead_0 : decode cX5_refusedAhead 0 = .ok (.iload_n 1, 1) := by decide +kernel
theorem dX5_refusedAhead_1 : decode cX5_refusedAhead 1 = .ok (.iconst 1, 1) := by decide +kernel
theorem dX5_refusedAhead_2 : decode cX5_refusedAhead 2 = .ok (.if_icmp .lt 8, 3) := by decide +kernel
theorem dX5_refusedAhead_5 : decode cX5_refusedAhead 5 = .ok (.iload_n 1, 1) := by decide +kernel
theorem dX5_refusedAhead_6 : decode cX5_refusedAhead 6 = .ok (.iconst 4, 1) := by decide +kernel
theorem dX5_refusedAhead_7 : decode cX5_refusedAhead 7 = .ok (.if_icmp .le 6, 3) := by decide +kernel
theorem dX5_refusedAhead_10 : decode cX5_refusedAhead 10 = .ok (.bipush (-2), 2) := by decide +kernel
theorem dX5_refusedAhead_12 : decode cX5_refusedAhead 12 = .ok (.ireturn, 1) := by decide +kernel
theorem dX5_refusedAhead_13 : decode cX5_refusedAhead 13 = .ok (.aload_n 0, 1) := by decide +kernel
theorem dX5_refusedAhead_14 : decode cX5_refusedAhead 14 = .ok (.getfield 32, 3) := by decide +kernel
theorem dX5_refusedAhead_17 : decode cX5_refusedAhead 17 = .ok (.getfield 229, 3) := by decide +kernel
theorem dX5_refusedAhead_20 : decode cX5_refusedAhead 20 = .ok (.bipush (-9), 2) := by decide +kernel
theorem dX5_refusedAhead_22 : decode cX5_refusedAhead 22 = .ok (.if_icmp .eq 8, 3) := by decide +kernel
theorem dX5_refusedAhead_25 : decode cX5_refusedAhead 25 = .ok (.bipush (-3), 2) := by decide +kernel
theorem dX5_refusedAhead_27 : decode cX5_refusedAhead 27 = .ok (.goto 5, 3) := by decide +kernel
theorem dX5_refusedAhead_30 : decode cX5_refusedAhead 30 = .ok (.bipush (-9), 2) := by decide +kernel
theorem dX5_refusedAhead_32 : decode cX5_refusedAhead 32 = .ok (.ireturn, 1) := by decide +kernel
theorem dX5_may_0 : decode cX5_may 0 = .ok (.iload_n 2, 1) := by decide +kernel
theorem dX5_may_1 : decode cX5_may 1 = .ok (.bipush 100, 2) := by decide +kernel
theorem dX5_may_3 : decode cX5_may 3 = .ok (.idiv, 1) := by decide +kernel
theorem dX5_may_4 : decode cX5_may 4 = .ok (.istore_n 3, 1) := by decide +kernel
theorem dX5_may_5 : decode cX5_may 5 = .ok (.iload_n 2, 1) := by decide +kernel
theorem dX5_may_6 : decode cX5_may 6 = .ok (.bipush 100, 2) := by decide +kernel
theorem dX5_may_8 : decode cX5_may 8 = .ok (.irem, 1) := by decide +kernel
theorem dX5_may_9 : decode cX5_may 9 = .ok (.istore 4, 2) := by decide +kernel
theorem dX5_may_11 : decode cX5_may 11 = .ok (.aload_n 0, 1) := by decide +kernel
theorem dX5_may_12 : decode cX5_may 12 = .ok (.iload_n 3, 1) := by decide +kernel
theorem dX5_may_13 : decode cX5_may 13 = .ok (.invokevirtual 105, 3) := by decide +kernel
theorem dX5_may_16 : decode cX5_may 16 = .ok (.ifCond .eq 57, 3) := by decide +kernel
theorem dX5_may_19 : decode cX5_may 19 = .ok (.aload_n 0, 1) := by decide +kernel
theorem dX5_may_20 : decode cX5_may 20 = .ok (.iload 4, 2) := by decide +kernel
theorem dX5_may_22 : decode cX5_may 22 = .ok (.invokevirtual 105, 3) := by decide +kernel
theorem dX5_may_25 : decode cX5_may 25 = .ok (.ifCond .eq 48, 3) := by decide +kernel
theorem dX5_may_28 : decode cX5_may 28 = .ok (.aload_n 1, 1) := by decide +kernel
theorem dX5_may_29 : decode cX5_may 29 = .ok (.getfield 229, 3) := by decide +kernel
theorem dX5_may_32 : decode cX5_may 32 = .ok (.bipush (-9), 2) := by decide +kernel
theorem dX5_may_34 : decode cX5_may 34 = .ok (.if_icmp .ne 39, 3) := by decide +kernel
theorem dX5_may_37 : decode cX5_may 37 = .ok (.aload_n 1, 1) := by decide +kernel
theorem dX5_may_38 : decode cX5_may 38 = .ok (.aload_n 1, 1) := by decide +kernel
theorem dX5_may_39 : decode cX5_may 39 = .ok (.getfield 100, 3) := by decide +kernel
theorem dX5_may_42 : decode cX5_may 42 = .ok (.invokevirtual 176, 3) := by decide +kernel
theorem dX5_may_45 : decode cX5_may 45 = .ok (.iload_n 3, 1) := by decide +kernel
theorem dX5_may_46 : decode cX5_may 46 = .ok (.invokestatic 118, 3) := by decide +kernel
theorem dX5_may_49 : decode cX5_may 49 = .ok (.ifCond .eq 24, 3) := by decide +kernel
theorem dX5_may_52 : decode cX5_may 52 = .ok (.aload_n 1, 1) := by decide +kernel
theorem dX5_may_53 : decode cX5_may 53 = .ok (.aload_n 0, 1) := by decide +kernel
theorem dX5_may_54 : decode cX5_may 54 = .ok (.getfield 19, 3) := by decide +kernel
theorem dX5_may_57 : decode cX5_may 57 = .ok (.iload_n 3, 1) := by decide +kernel
theorem dX5_may_58 : decode cX5_may 58 = .ok (.invokevirtual 132, 3) := by decide +kernel
theorem dX5_may_61 : decode cX5_may 61 = .ok (.iload 4, 2) := by decide +kernel
theorem dX5_may_63 : decode cX5_may 63 = .ok (.invokestatic 118, 3) := by decide +kernel
theorem dX5_may_66 : decode cX5_may 66 = .ok (.ifCond .eq 7, 3) := by decide +kernel
theorem dX5_may_69 : decode cX5_may 69 = .ok (.iconst 1, 1) := by decide +kernel
theorem dX5_may_70 : decode cX5_may 70 = .ok (.goto 4, 3) := by decide +kernel
theorem dX5_may_73 : decode cX5_may 73 = .ok (.iconst 0, 1) := by decide +kernel
theorem dX5_may_74 : decode cX5_may 74 = .ok (.ireturn, 1) := by decide +kernel
theorem dX5_listKeys_0 : decode cX5_listKeys 0 = .ok (.aload_n 0, 1) := by decide +kernel
theorem dX5_listKeys_1 : decode cX5_listKeys 1 = .ok (.getfield 32, 3) := by decide +kernel
theorem dX5_listKeys_4 : decode cX5_listKeys 4 = .ok (.aload_n 0, 1) := by decide +kernel
theorem dX5_listKeys_5 : decode cX5_listKeys 5 = .ok (.getfield 19, 3) := by decide +kernel
theorem dX5_listKeys_8 : decode cX5_listKeys 8 = .ok (.invokevirtual 136, 3) := by decide +kernel
theorem dX5_listKeys_11 : decode cX5_listKeys 11 = .ok (.istore_n 2, 1) := by decide +kernel
theorem dX5_listKeys_12 : decode cX5_listKeys 12 = .ok (.iconst 0, 1) := by decide +kernel
theorem dX5_listKeys_13 : decode cX5_listKeys 13 = .ok (.istore_n 3, 1) := by decide +kernel
theorem dX5_listKeys_14 : decode cX5_listKeys 14 = .ok (.iconst 0, 1) := by decide +kernel
theorem dX5_listKeys_15 : decode cX5_listKeys 15 = .ok (.istore 4, 2) := by decide +kernel
theorem dX5_listKeys_17 : decode cX5_listKeys 17 = .ok (.iload 4, 2) := by decide +kernel
theorem dX5_listKeys_19 : decode cX5_listKeys 19 = .ok (.iload_n 2, 1) := by decide +kernel
theorem dX5_listKeys_20 : decode cX5_listKeys 20 = .ok (.if_icmp .ge 77, 3) := by decide +kernel
theorem dX5_listKeys_23 : decode cX5_listKeys 23 = .ok (.aload_n 0, 1) := by decide +kernel
theorem dX5_listKeys_24 : decode cX5_listKeys 24 = .ok (.getfield 32, 3) := by decide +kernel
theorem dX5_listKeys_27 : decode cX5_listKeys 27 = .ok (.iload 4, 2) := by decide +kernel
theorem dX5_listKeys_29 : decode cX5_listKeys 29 = .ok (.invokevirtual 151, 3) := by decide +kernel
theorem dX5_listKeys_32 : decode cX5_listKeys 32 = .ok (.istore 5, 2) := by decide +kernel
theorem dX5_listKeys_34 : decode cX5_listKeys 34 = .ok (.aload_n 0, 1) := by decide +kernel
theorem dX5_listKeys_35 : decode cX5_listKeys 35 = .ok (.getfield 28, 3) := by decide +kernel
theorem dX5_listKeys_38 : decode cX5_listKeys 38 = .ok (.aload_n 0, 1) := by decide +kernel
theorem dX5_listKeys_39 : decode cX5_listKeys 39 = .ok (.getfield 32, 3) := by decide +kernel
theorem dX5_listKeys_42 : decode cX5_listKeys 42 = .ok (.iload 5, 2) := by decide +kernel
theorem dX5_listKeys_44 : decode cX5_listKeys 44 = .ok (.aload_n 0, 1) := by decide +kernel
theorem dX5_listKeys_45 : decode cX5_listKeys 45 = .ok (.getfield 19, 3) := by decide +kernel
theorem dX5_listKeys_48 : decode cX5_listKeys 48 = .ok (.getfield 146, 3) := by decide +kernel
theorem dX5_listKeys_51 : decode cX5_listKeys 51 = .ok (.invokevirtual 232, 3) := by decide +kernel
theorem dX5_listKeys_54 : decode cX5_listKeys 54 = .ok (.aload_n 0, 1) := by decide +kernel
theorem dX5_listKeys_55 : decode cX5_listKeys 55 = .ok (.getfield 19, 3) := by decide +kernel
theorem dX5_listKeys_58 : decode cX5_listKeys 58 = .ok (.aload_n 0, 1) := by decide +kernel
theorem dX5_listKeys_59 : decode cX5_listKeys 59 = .ok (.getfield 28, 3) := by decide +kernel
theorem dX5_listKeys_62 : decode cX5_listKeys 62 = .ok (.aload_n 0, 1) := by decide +kernel
theorem dX5_listKeys_63 : decode cX5_listKeys 63 = .ok (.getfield 32, 3) := by decide +kernel
theorem dX5_listKeys_66 : decode cX5_listKeys 66 = .ok (.getfield 100, 3) := by decide +kernel
theorem dX5_listKeys_69 : decode cX5_listKeys 69 = .ok (.iload_n 1, 1) := by decide +kernel
theorem dX5_listKeys_70 : decode cX5_listKeys 70 = .ok (.iconst 1, 1) := by decide +kernel
theorem dX5_listKeys_71 : decode cX5_listKeys 71 = .ok (.isub, 1) := by decide +kernel
theorem dX5_listKeys_72 : decode cX5_listKeys 72 = .ok (.invokestatic 166, 3) := by decide +kernel
theorem dX5_listKeys_75 : decode cX5_listKeys 75 = .ok (.ifCond .eq 16, 3) := by decide +kernel
theorem dX5_listKeys_78 : decode cX5_listKeys 78 = .ok (.aload_n 0, 1) := by decide +kernel
theorem dX5_listKeys_79 : decode cX5_listKeys 79 = .ok (.getfield 32, 3) := by decide +kernel
theorem dX5_listKeys_82 : decode cX5_listKeys 82 = .ok (.iload_n 3, 1) := by decide +kernel
theorem dX5_listKeys_83 : decode cX5_listKeys 83 = .ok (.iload 5, 2) := by decide +kernel
theorem dX5_listKeys_85 : decode cX5_listKeys 85 = .ok (.invokevirtual 236, 3) := by decide +kernel
theorem dX5_listKeys_88 : decode cX5_listKeys 88 = .ok (.iinc 3 1, 3) := by decide +kernel
theorem dX5_listKeys_91 : decode cX5_listKeys 91 = .ok (.iinc 4 1, 3) := by decide +kernel
theorem dX5_listKeys_94 : decode cX5_listKeys 94 = .ok (.goto (-77), 3) := by decide +kernel
theorem dX5_listKeys_97 : decode cX5_listKeys 97 = .ok (.iload_n 3, 1) := by decide +kernel
theorem dX5_listKeys_98 : decode cX5_listKeys 98 = .ok (.ireturn, 1) := by decide +kernel
theorem dX5_partsAheadOf_0 : decode cX5_partsAheadOf 0 = .ok (.aload_n 0, 1) := by decide +kernel
theorem dX5_partsAheadOf_1 : decode cX5_partsAheadOf 1 = .ok (.getfield 19, 3) := by decide +kernel
theorem dX5_partsAheadOf_4 : decode cX5_partsAheadOf 4 = .ok (.invokevirtual 239, 3) := by decide +kernel
theorem dX5_partsAheadOf_7 : decode cX5_partsAheadOf 7 = .ok (.aload_n 0, 1) := by decide +kernel
theorem dX5_partsAheadOf_8 : decode cX5_partsAheadOf 8 = .ok (.getfield 32, 3) := by decide +kernel
theorem dX5_partsAheadOf_11 : decode cX5_partsAheadOf 11 = .ok (.getfield 115, 3) := by decide +kernel
theorem dX5_partsAheadOf_14 : decode cX5_partsAheadOf 14 = .ok (.iconst (-1), 1) := by decide +kernel
theorem dX5_partsAheadOf_15 : decode cX5_partsAheadOf 15 = .ok (.ixor, 1) := by decide +kernel
theorem dX5_partsAheadOf_16 : decode cX5_partsAheadOf 16 = .ok (.iand, 1) := by decide +kernel
theorem dX5_partsAheadOf_17 : decode cX5_partsAheadOf 17 = .ok (.istore_n 2, 1) := by decide +kernel
theorem dX5_partsAheadOf_18 : decode cX5_partsAheadOf 18 = .ok (.iconst 0, 1) := by decide +kernel
theorem dX5_partsAheadOf_19 : decode cX5_partsAheadOf 19 = .ok (.istore_n 3, 1) := by decide +kernel
theorem dX5_partsAheadOf_20 : decode cX5_partsAheadOf 20 = .ok (.iconst 0, 1) := by decide +kernel
theorem dX5_partsAheadOf_21 : decode cX5_partsAheadOf 21 = .ok (.istore 4, 2) := by decide +kernel
theorem dX5_partsAheadOf_23 : decode cX5_partsAheadOf 23 = .ok (.iconst 0, 1) := by decide +kernel
theorem dX5_partsAheadOf_24 : decode cX5_partsAheadOf 24 = .ok (.istore 5, 2) := by decide +kernel
theorem dX5_partsAheadOf_26 : decode cX5_partsAheadOf 26 = .ok (.iload 5, 2) := by decide +kernel
theorem dX5_partsAheadOf_28 : decode cX5_partsAheadOf 28 = .ok (.aload_n 0, 1) := by decide +kernel
theorem dX5_partsAheadOf_29 : decode cX5_partsAheadOf 29 = .ok (.getfield 19, 3) := by decide +kernel
theorem dX5_partsAheadOf_32 : decode cX5_partsAheadOf 32 = .ok (.getfield 86, 3) := by decide +kernel
theorem dX5_partsAheadOf_35 : decode cX5_partsAheadOf 35 = .ok (.if_icmp .ge 52, 3) := by decide +kernel
theorem dX5_partsAheadOf_38 : decode cX5_partsAheadOf 38 = .ok (.iload_n 2, 1) := by decide +kernel
theorem dX5_partsAheadOf_39 : decode cX5_partsAheadOf 39 = .ok (.iload_n 3, 1) := by decide +kernel
theorem dX5_partsAheadOf_40 : decode cX5_partsAheadOf 40 = .ok (.iconst (-1), 1) := by decide +kernel
theorem dX5_partsAheadOf_41 : decode cX5_partsAheadOf 41 = .ok (.ixor, 1) := by decide +kernel
theorem dX5_partsAheadOf_42 : decode cX5_partsAheadOf 42 = .ok (.iand, 1) := by decide +kernel
theorem dX5_partsAheadOf_43 : decode cX5_partsAheadOf 43 = .ok (.iload 5, 2) := by decide +kernel
theorem dX5_partsAheadOf_45 : decode cX5_partsAheadOf 45 = .ok (.invokestatic 118, 3) := by decide +kernel
theorem dX5_partsAheadOf_48 : decode cX5_partsAheadOf 48 = .ok (.ifCond .eq 33, 3) := by decide +kernel
theorem dX5_partsAheadOf_51 : decode cX5_partsAheadOf 51 = .ok (.aload_n 0, 1) := by decide +kernel
theorem dX5_partsAheadOf_52 : decode cX5_partsAheadOf 52 = .ok (.getfield 19, 3) := by decide +kernel
theorem dX5_partsAheadOf_55 : decode cX5_partsAheadOf 55 = .ok (.iload 5, 2) := by decide +kernel
theorem dX5_partsAheadOf_57 : decode cX5_partsAheadOf 57 = .ok (.iload_n 2, 1) := by decide +kernel
theorem dX5_partsAheadOf_58 : decode cX5_partsAheadOf 58 = .ok (.invokevirtual 242, 3) := by decide +kernel
theorem dX5_partsAheadOf_61 : decode cX5_partsAheadOf 61 = .ok (.istore 6, 2) := by decide +kernel
theorem dX5_partsAheadOf_63 : decode cX5_partsAheadOf 63 = .ok (.iload 6, 2) := by decide +kernel
theorem dX5_partsAheadOf_65 : decode cX5_partsAheadOf 65 = .ok (.iload_n 1, 1) := by decide +kernel
theorem dX5_partsAheadOf_66 : decode cX5_partsAheadOf 66 = .ok (.iand, 1) := by decide +kernel
theorem dX5_partsAheadOf_67 : decode cX5_partsAheadOf 67 = .ok (.ifCond .eq 6, 3) := by decide +kernel
theorem dX5_partsAheadOf_70 : decode cX5_partsAheadOf 70 = .ok (.iload 4, 2) := by decide +kernel
theorem dX5_partsAheadOf_72 : decode cX5_partsAheadOf 72 = .ok (.ireturn, 1) := by decide +kernel
theorem dX5_partsAheadOf_73 : decode cX5_partsAheadOf 73 = .ok (.iload_n 3, 1) := by decide +kernel
theorem dX5_partsAheadOf_74 : decode cX5_partsAheadOf 74 = .ok (.iload 6, 2) := by decide +kernel
theorem dX5_partsAheadOf_76 : decode cX5_partsAheadOf 76 = .ok (.ior, 1) := by decide +kernel
theorem dX5_partsAheadOf_77 : decode cX5_partsAheadOf 77 = .ok (.istore_n 3, 1) := by decide +kernel
theorem dX5_partsAheadOf_78 : decode cX5_partsAheadOf 78 = .ok (.iinc 4 1, 3) := by decide +kernel
theorem dX5_partsAheadOf_81 : decode cX5_partsAheadOf 81 = .ok (.iinc 5 1, 3) := by decide +kernel
theorem dX5_partsAheadOf_84 : decode cX5_partsAheadOf 84 = .ok (.goto (-58), 3) := by decide +kernel
theorem dX5_partsAheadOf_87 : decode cX5_partsAheadOf 87 = .ok (.iload 4, 2) := by decide +kernel
theorem dX5_partsAheadOf_89 : decode cX5_partsAheadOf 89 = .ok (.ireturn, 1) := by decide +kernel
theorem dX5_canComeAt_0 : decode cX5_canComeAt 0 = .ok (.iconst 0, 1) := by decide +kernel
theorem dX5_canComeAt_1 : decode cX5_canComeAt 1 = .ok (.istore_n 3, 1) := by decide +kernel
theorem dX5_canComeAt_2 : decode cX5_canComeAt 2 = .ok (.iconst 0, 1) := by decide +kernel
theorem dX5_canComeAt_3 : decode cX5_canComeAt 3 = .ok (.istore 4, 2) := by decide +kernel
theorem dX5_canComeAt_5 : decode cX5_canComeAt 5 = .ok (.iconst 0, 1) := by decide +kernel
theorem dX5_canComeAt_6 : decode cX5_canComeAt 6 = .ok (.istore 5, 2) := by decide +kernel
theorem dX5_canComeAt_8 : decode cX5_canComeAt 8 = .ok (.iload 5, 2) := by decide +kernel
theorem dX5_canComeAt_10 : decode cX5_canComeAt 10 = .ok (.aload_n 0, 1) := by decide +kernel
theorem dX5_canComeAt_11 : decode cX5_canComeAt 11 = .ok (.getfield 19, 3) := by decide +kernel
theorem dX5_canComeAt_14 : decode cX5_canComeAt 14 = .ok (.getfield 86, 3) := by decide +kernel
theorem dX5_canComeAt_17 : decode cX5_canComeAt 17 = .ok (.if_icmp .ge 85, 3) := by decide +kernel
theorem dX5_canComeAt_20 : decode cX5_canComeAt 20 = .ok (.iload_n 1, 1) := by decide +kernel
theorem dX5_canComeAt_21 : decode cX5_canComeAt 21 = .ok (.iload 5, 2) := by decide +kernel
theorem dX5_canComeAt_23 : decode cX5_canComeAt 23 = .ok (.invokestatic 118, 3) := by decide +kernel
theorem dX5_canComeAt_26 : decode cX5_canComeAt 26 = .ok (.ifCond .eq 31, 3) := by decide +kernel
theorem dX5_canComeAt_29 : decode cX5_canComeAt 29 = .ok (.iload_n 3, 1) := by decide +kernel
theorem dX5_canComeAt_30 : decode cX5_canComeAt 30 = .ok (.aload_n 0, 1) := by decide +kernel
theorem dX5_canComeAt_31 : decode cX5_canComeAt 31 = .ok (.getfield 19, 3) := by decide +kernel
theorem dX5_canComeAt_34 : decode cX5_canComeAt 34 = .ok (.aload_n 0, 1) := by decide +kernel
theorem dX5_canComeAt_35 : decode cX5_canComeAt 35 = .ok (.getfield 32, 3) := by decide +kernel
theorem dX5_canComeAt_38 : decode cX5_canComeAt 38 = .ok (.iload 5, 2) := by decide +kernel
theorem dX5_canComeAt_40 : decode cX5_canComeAt 40 = .ok (.invokevirtual 109, 3) := by decide +kernel
theorem dX5_canComeAt_43 : decode cX5_canComeAt 43 = .ok (.iload 5, 2) := by decide +kernel
theorem dX5_canComeAt_45 : decode cX5_canComeAt 45 = .ok (.aload_n 0, 1) := by decide +kernel
theorem dX5_canComeAt_46 : decode cX5_canComeAt 46 = .ok (.getfield 32, 3) := by decide +kernel
theorem dX5_canComeAt_49 : decode cX5_canComeAt 49 = .ok (.getfield 115, 3) := by decide +kernel
theorem dX5_canComeAt_52 : decode cX5_canComeAt 52 = .ok (.invokevirtual 245, 3) := by decide +kernel
theorem dX5_canComeAt_55 : decode cX5_canComeAt 55 = .ok (.ior, 1) := by decide +kernel
theorem dX5_canComeAt_56 : decode cX5_canComeAt 56 = .ok (.istore_n 3, 1) := by decide +kernel
theorem dX5_canComeAt_57 : decode cX5_canComeAt 57 = .ok (.iload_n 2, 1) := by decide +kernel
theorem dX5_canComeAt_58 : decode cX5_canComeAt 58 = .ok (.iload 5, 2) := by decide +kernel
theorem dX5_canComeAt_60 : decode cX5_canComeAt 60 = .ok (.invokestatic 118, 3) := by decide +kernel
theorem dX5_canComeAt_63 : decode cX5_canComeAt 63 = .ok (.ifCond .eq 33, 3) := by decide +kernel
theorem dX5_canComeAt_66 : decode cX5_canComeAt 66 = .ok (.iload 4, 2) := by decide +kernel
theorem dX5_canComeAt_68 : decode cX5_canComeAt 68 = .ok (.aload_n 0, 1) := by decide +kernel
theorem dX5_canComeAt_69 : decode cX5_canComeAt 69 = .ok (.getfield 19, 3) := by decide +kernel
theorem dX5_canComeAt_72 : decode cX5_canComeAt 72 = .ok (.aload_n 0, 1) := by decide +kernel
theorem dX5_canComeAt_73 : decode cX5_canComeAt 73 = .ok (.getfield 32, 3) := by decide +kernel
theorem dX5_canComeAt_76 : decode cX5_canComeAt 76 = .ok (.iload 5, 2) := by decide +kernel
theorem dX5_canComeAt_78 : decode cX5_canComeAt 78 = .ok (.invokevirtual 109, 3) := by decide +kernel
theorem dX5_canComeAt_81 : decode cX5_canComeAt 81 = .ok (.iload 5, 2) := by decide +kernel
theorem dX5_canComeAt_83 : decode cX5_canComeAt 83 = .ok (.aload_n 0, 1) := by decide +kernel
theorem dX5_canComeAt_84 : decode cX5_canComeAt 84 = .ok (.getfield 32, 3) := by decide +kernel
theorem dX5_canComeAt_87 : decode cX5_canComeAt 87 = .ok (.getfield 115, 3) := by decide +kernel
theorem dX5_canComeAt_90 : decode cX5_canComeAt 90 = .ok (.invokevirtual 186, 3) := by decide +kernel
theorem dX5_canComeAt_93 : decode cX5_canComeAt 93 = .ok (.ior, 1) := by decide +kernel
theorem dX5_canComeAt_94 : decode cX5_canComeAt 94 = .ok (.istore 4, 2) := by decide +kernel
theorem dX5_canComeAt_96 : decode cX5_canComeAt 96 = .ok (.iinc 5 1, 3) := by decide +kernel
theorem dX5_canComeAt_99 : decode cX5_canComeAt 99 = .ok (.goto (-91), 3) := by decide +kernel
theorem dX5_canComeAt_102 : decode cX5_canComeAt 102 = .ok (.iload_n 3, 1) := by decide +kernel
theorem dX5_canComeAt_103 : decode cX5_canComeAt 103 = .ok (.iload 4, 2) := by decide +kernel
theorem dX5_canComeAt_105 : decode cX5_canComeAt 105 = .ok (.iand, 1) := by decide +kernel
theorem dX5_canComeAt_106 : decode cX5_canComeAt 106 = .ok (.ifCond .eq 7, 3) := by decide +kernel
theorem dX5_canComeAt_109 : decode cX5_canComeAt 109 = .ok (.iconst 1, 1) := by decide +kernel
theorem dX5_canComeAt_110 : decode cX5_canComeAt 110 = .ok (.goto 4, 3) := by decide +kernel
theorem dX5_canComeAt_113 : decode cX5_canComeAt 113 = .ok (.iconst 0, 1) := by decide +kernel
theorem dX5_canComeAt_114 : decode cX5_canComeAt 114 = .ok (.ireturn, 1) := by decide +kernel
theorem dX5_isForced_0 : decode cX5_isForced 0 = .ok (.aload_n 1, 1) := by decide +kernel
theorem dX5_isForced_1 : decode cX5_isForced 1 = .ok (.getfield 229, 3) := by decide +kernel
theorem dX5_isForced_4 : decode cX5_isForced 4 = .ok (.bipush (-9), 2) := by decide +kernel
theorem dX5_isForced_6 : decode cX5_isForced 6 = .ok (.if_icmp .eq 17, 3) := by decide +kernel
theorem dX5_isForced_9 : decode cX5_isForced 9 = .ok (.aload_n 1, 1) := by decide +kernel
theorem dX5_isForced_10 : decode cX5_isForced 10 = .ok (.getfield 229, 3) := by decide +kernel
theorem dX5_isForced_13 : decode cX5_isForced 13 = .ok (.iload_n 2, 1) := by decide +kernel
theorem dX5_isForced_14 : decode cX5_isForced 14 = .ok (.if_icmp .eq 7, 3) := by decide +kernel
theorem dX5_isForced_17 : decode cX5_isForced 17 = .ok (.iconst 1, 1) := by decide +kernel
theorem dX5_isForced_18 : decode cX5_isForced 18 = .ok (.goto 4, 3) := by decide +kernel
theorem dX5_isForced_21 : decode cX5_isForced 21 = .ok (.iconst 0, 1) := by decide +kernel
theorem dX5_isForced_22 : decode cX5_isForced 22 = .ok (.ireturn, 1) := by decide +kernel
theorem dX5_isForced_23 : decode cX5_isForced 23 = .ok (.aload_n 1, 1) := by decide +kernel
theorem dX5_isForced_24 : decode cX5_isForced 24 = .ok (.getfield 100, 3) := by decide +kernel
theorem dX5_isForced_27 : decode cX5_isForced 27 = .ok (.iload_n 2, 1) := by decide +kernel
theorem dX5_isForced_28 : decode cX5_isForced 28 = .ok (.if_icmp .ne 7, 3) := by decide +kernel
theorem dX5_isForced_31 : decode cX5_isForced 31 = .ok (.iconst 1, 1) := by decide +kernel
theorem dX5_isForced_32 : decode cX5_isForced 32 = .ok (.goto 4, 3) := by decide +kernel
theorem dX5_isForced_35 : decode cX5_isForced 35 = .ok (.iconst 0, 1) := by decide +kernel
theorem dX5_isForced_36 : decode cX5_isForced 36 = .ok (.istore 4, 2) := by decide +kernel
theorem dX5_isForced_38 : decode cX5_isForced 38 = .ok (.iload 4, 2) := by decide +kernel
theorem dX5_isForced_40 : decode cX5_isForced 40 = .ok (.ifCond .eq 26, 3) := by decide +kernel
theorem dX5_isForced_43 : decode cX5_isForced 43 = .ok (.iload_n 3, 1) := by decide +kernel
theorem dX5_isForced_44 : decode cX5_isForced 44 = .ok (.iconst 3, 1) := by decide +kernel
theorem dX5_isForced_45 : decode cX5_isForced 45 = .ok (.if_icmp .ge 21, 3) := by decide +kernel
theorem dX5_isForced_48 : decode cX5_isForced 48 = .ok (.iload_n 3, 1) := by decide +kernel
theorem dX5_isForced_49 : decode cX5_isForced 49 = .ok (.ifCond .le 15, 3) := by decide +kernel
theorem dX5_isForced_52 : decode cX5_isForced 52 = .ok (.aload_n 1, 1) := by decide +kernel
theorem dX5_isForced_53 : decode cX5_isForced 53 = .ok (.aload_n 0, 1) := by decide +kernel
theorem dX5_isForced_54 : decode cX5_isForced 54 = .ok (.invokevirtual 248, 3) := by decide +kernel
theorem dX5_isForced_57 : decode cX5_isForced 57 = .ok (.ifCond .eq 7, 3) := by decide +kernel
theorem dX5_isForced_60 : decode cX5_isForced 60 = .ok (.iconst 1, 1) := by decide +kernel
theorem dX5_isForced_61 : decode cX5_isForced 61 = .ok (.goto 4, 3) := by decide +kernel
theorem dX5_isForced_64 : decode cX5_isForced 64 = .ok (.iconst 0, 1) := by decide +kernel
theorem dX5_isForced_65 : decode cX5_isForced 65 = .ok (.ireturn, 1) := by decide +kernel
theorem dX5_isForced_66 : decode cX5_isForced 66 = .ok (.aload_n 1, 1) := by decide +kernel
theorem dX5_isForced_67 : decode cX5_isForced 67 = .ok (.getfield 252, 3) := by decide +kernel
theorem dX5_isForced_70 : decode cX5_isForced 70 = .ok (.astore 5, 2) := by decide +kernel
theorem dX5_isForced_72 : decode cX5_isForced 72 = .ok (.iload_n 3, 1) := by decide +kernel
theorem dX5_isForced_73 : decode cX5_isForced 73 = .ok (.iconst 2, 1) := by decide +kernel
theorem dX5_isForced_74 : decode cX5_isForced 74 = .ok (.if_icmp .lt 8, 3) := by decide +kernel
theorem dX5_isForced_77 : decode cX5_isForced 77 = .ok (.aload 5, 2) := by decide +kernel
theorem dX5_isForced_79 : decode cX5_isForced 79 = .ok (.ifnonnull 5, 3) := by decide +kernel
theorem dX5_isForced_82 : decode cX5_isForced 82 = .ok (.iconst 0, 1) := by decide +kernel
theorem dX5_isForced_83 : decode cX5_isForced 83 = .ok (.ireturn, 1) := by decide +kernel
theorem dX5_isForced_84 : decode cX5_isForced 84 = .ok (.aload_n 1, 1) := by decide +kernel
theorem dX5_isForced_85 : decode cX5_isForced 85 = .ok (.aload_n 0, 1) := by decide +kernel
theorem dX5_isForced_86 : decode cX5_isForced 86 = .ok (.invokevirtual 136, 3) := by decide +kernel
theorem dX5_isForced_89 : decode cX5_isForced 89 = .ok (.istore 6, 2) := by decide +kernel
theorem dX5_isForced_91 : decode cX5_isForced 91 = .ok (.iconst 0, 1) := by decide +kernel
theorem dX5_isForced_92 : decode cX5_isForced 92 = .ok (.istore 7, 2) := by decide +kernel
theorem dX5_isForced_94 : decode cX5_isForced 94 = .ok (.iload 7, 2) := by decide +kernel
theorem dX5_isForced_96 : decode cX5_isForced 96 = .ok (.iload 6, 2) := by decide +kernel
theorem dX5_isForced_98 : decode cX5_isForced 98 = .ok (.if_icmp .ge 43, 3) := by decide +kernel
theorem dX5_isForced_101 : decode cX5_isForced 101 = .ok (.aload 5, 2) := by decide +kernel
theorem dX5_isForced_103 : decode cX5_isForced 103 = .ok (.aload_n 1, 1) := by decide +kernel
theorem dX5_isForced_104 : decode cX5_isForced 104 = .ok (.aload_n 1, 1) := by decide +kernel
theorem dX5_isForced_105 : decode cX5_isForced 105 = .ok (.iload 7, 2) := by decide +kernel
theorem dX5_isForced_107 : decode cX5_isForced 107 = .ok (.invokevirtual 151, 3) := by decide +kernel
theorem dX5_isForced_110 : decode cX5_isForced 110 = .ok (.aload_n 0, 1) := by decide +kernel
theorem dX5_isForced_111 : decode cX5_isForced 111 = .ok (.getfield 146, 3) := by decide +kernel
theorem dX5_isForced_114 : decode cX5_isForced 114 = .ok (.invokevirtual 232, 3) := by decide +kernel
theorem dX5_isForced_117 : decode cX5_isForced 117 = .ok (.aload_n 0, 1) := by decide +kernel
theorem dX5_isForced_118 : decode cX5_isForced 118 = .ok (.aload 5, 2) := by decide +kernel
theorem dX5_isForced_120 : decode cX5_isForced 120 = .ok (.iload_n 2, 1) := by decide +kernel
theorem dX5_isForced_121 : decode cX5_isForced 121 = .ok (.iload_n 3, 1) := by decide +kernel
theorem dX5_isForced_122 : decode cX5_isForced 122 = .ok (.iconst 1, 1) := by decide +kernel
theorem dX5_isForced_123 : decode cX5_isForced 123 = .ok (.isub, 1) := by decide +kernel
theorem dX5_isForced_124 : decode cX5_isForced 124 = .ok (.invokestatic 166, 3) := by decide +kernel
theorem dX5_isForced_127 : decode cX5_isForced 127 = .ok (.iload 4, 2) := by decide +kernel
theorem dX5_isForced_129 : decode cX5_isForced 129 = .ok (.if_icmp .ne 6, 3) := by decide +kernel
theorem dX5_isForced_132 : decode cX5_isForced 132 = .ok (.iload 4, 2) := by decide +kernel
theorem dX5_isForced_134 : decode cX5_isForced 134 = .ok (.ireturn, 1) := by decide +kernel
theorem dX5_isForced_135 : decode cX5_isForced 135 = .ok (.iinc 7 1, 3) := by decide +kernel
theorem dX5_isForced_138 : decode cX5_isForced 138 = .ok (.goto (-44), 3) := by decide +kernel
theorem dX5_isForced_141 : decode cX5_isForced 141 = .ok (.iload 4, 2) := by decide +kernel
theorem dX5_isForced_143 : decode cX5_isForced 143 = .ok (.ifCond .ne 7, 3) := by decide +kernel
theorem dX5_isForced_146 : decode cX5_isForced 146 = .ok (.iconst 1, 1) := by decide +kernel
theorem dX5_isForced_147 : decode cX5_isForced 147 = .ok (.goto 4, 3) := by decide +kernel
theorem dX5_isForced_150 : decode cX5_isForced 150 = .ok (.iconst 0, 1) := by decide +kernel
theorem dX5_isForced_151 : decode cX5_isForced 151 = .ok (.ireturn, 1) := by decide +kernel
theorem dX5_rowsTo_0 : decode cX5_rowsTo 0 = .ok (.aload_n 1, 1) := by decide +kernel
theorem dX5_rowsTo_1 : decode cX5_rowsTo 1 = .ok (.aload_n 2, 1) := by decide +kernel
theorem dX5_rowsTo_2 : decode cX5_rowsTo 2 = .ok (.invokevirtual 255, 3) := by decide +kernel
theorem dX5_rowsTo_5 : decode cX5_rowsTo 5 = .ok (.iconst 3, 1) := by decide +kernel
theorem dX5_rowsTo_6 : decode cX5_rowsTo 6 = .ok (.iload_n 3, 1) := by decide +kernel
theorem dX5_rowsTo_7 : decode cX5_rowsTo 7 = .ok (.imul, 1) := by decide +kernel
theorem dX5_rowsTo_8 : decode cX5_rowsTo 8 = .ok (.if_icmp .le 5, 3) := by decide +kernel
theorem dX5_rowsTo_11 : decode cX5_rowsTo 11 = .ok (.iconst 0, 1) := by decide +kernel
theorem dX5_rowsTo_12 : decode cX5_rowsTo 12 = .ok (.ireturn, 1) := by decide +kernel
theorem dX5_rowsTo_13 : decode cX5_rowsTo 13 = .ok (.iload_n 3, 1) := by decide +kernel
theorem dX5_rowsTo_14 : decode cX5_rowsTo 14 = .ok (.iconst 1, 1) := by decide +kernel
theorem dX5_rowsTo_15 : decode cX5_rowsTo 15 = .ok (.if_icmp .ge 17, 3) := by decide +kernel
theorem dX5_rowsTo_18 : decode cX5_rowsTo 18 = .ok (.aload_n 1, 1) := by decide +kernel
theorem dX5_rowsTo_19 : decode cX5_rowsTo 19 = .ok (.aload_n 2, 1) := by decide +kernel
theorem dX5_rowsTo_20 : decode cX5_rowsTo 20 = .ok (.invokevirtual 259, 3) := by decide +kernel
theorem dX5_rowsTo_23 : decode cX5_rowsTo 23 = .ok (.ifCond .eq 7, 3) := by decide +kernel
theorem dX5_rowsTo_26 : decode cX5_rowsTo 26 = .ok (.iconst 1, 1) := by decide +kernel
theorem dX5_rowsTo_27 : decode cX5_rowsTo 27 = .ok (.goto 4, 3) := by decide +kernel
theorem dX5_rowsTo_30 : decode cX5_rowsTo 30 = .ok (.iconst 0, 1) := by decide +kernel
theorem dX5_rowsTo_31 : decode cX5_rowsTo 31 = .ok (.ireturn, 1) := by decide +kernel
theorem dX5_rowsTo_32 : decode cX5_rowsTo 32 = .ok (.aload_n 1, 1) := by decide +kernel
theorem dX5_rowsTo_33 : decode cX5_rowsTo 33 = .ok (.getfield 252, 3) := by decide +kernel
theorem dX5_rowsTo_36 : decode cX5_rowsTo 36 = .ok (.astore 4, 2) := by decide +kernel
theorem dX5_rowsTo_38 : decode cX5_rowsTo 38 = .ok (.aload 4, 2) := by decide +kernel
theorem dX5_rowsTo_40 : decode cX5_rowsTo 40 = .ok (.ifnonnull 5, 3) := by decide +kernel
theorem dX5_rowsTo_43 : decode cX5_rowsTo 43 = .ok (.iconst 0, 1) := by decide +kernel
theorem dX5_rowsTo_44 : decode cX5_rowsTo 44 = .ok (.ireturn, 1) := by decide +kernel
theorem dX5_rowsTo_45 : decode cX5_rowsTo 45 = .ok (.iconst 0, 1) := by decide +kernel
theorem dX5_rowsTo_46 : decode cX5_rowsTo 46 = .ok (.istore 5, 2) := by decide +kernel
theorem dX5_rowsTo_48 : decode cX5_rowsTo 48 = .ok (.aload_n 1, 1) := by decide +kernel
theorem dX5_rowsTo_49 : decode cX5_rowsTo 49 = .ok (.aload_n 0, 1) := by decide +kernel
theorem dX5_rowsTo_50 : decode cX5_rowsTo 50 = .ok (.invokevirtual 136, 3) := by decide +kernel
theorem dX5_rowsTo_53 : decode cX5_rowsTo 53 = .ok (.istore 6, 2) := by decide +kernel
theorem dX5_rowsTo_55 : decode cX5_rowsTo 55 = .ok (.iconst 0, 1) := by decide +kernel
theorem dX5_rowsTo_56 : decode cX5_rowsTo 56 = .ok (.istore 7, 2) := by decide +kernel
theorem dX5_rowsTo_58 : decode cX5_rowsTo 58 = .ok (.iload 7, 2) := by decide +kernel
theorem dX5_rowsTo_60 : decode cX5_rowsTo 60 = .ok (.iload 6, 2) := by decide +kernel
theorem dX5_rowsTo_62 : decode cX5_rowsTo 62 = .ok (.if_icmp .ge 40, 3) := by decide +kernel
theorem dX5_rowsTo_65 : decode cX5_rowsTo 65 = .ok (.aload 4, 2) := by decide +kernel
theorem dX5_rowsTo_67 : decode cX5_rowsTo 67 = .ok (.aload_n 1, 1) := by decide +kernel
theorem dX5_rowsTo_68 : decode cX5_rowsTo 68 = .ok (.aload_n 1, 1) := by decide +kernel
theorem dX5_rowsTo_69 : decode cX5_rowsTo 69 = .ok (.iload 7, 2) := by decide +kernel
theorem dX5_rowsTo_71 : decode cX5_rowsTo 71 = .ok (.invokevirtual 151, 3) := by decide +kernel
theorem dX5_rowsTo_74 : decode cX5_rowsTo 74 = .ok (.aload_n 0, 1) := by decide +kernel
theorem dX5_rowsTo_75 : decode cX5_rowsTo 75 = .ok (.getfield 146, 3) := by decide +kernel
theorem dX5_rowsTo_78 : decode cX5_rowsTo 78 = .ok (.invokevirtual 232, 3) := by decide +kernel
theorem dX5_rowsTo_81 : decode cX5_rowsTo 81 = .ok (.iload 5, 2) := by decide +kernel
theorem dX5_rowsTo_83 : decode cX5_rowsTo 83 = .ok (.aload_n 0, 1) := by decide +kernel
theorem dX5_rowsTo_84 : decode cX5_rowsTo 84 = .ok (.aload 4, 2) := by decide +kernel
theorem dX5_rowsTo_86 : decode cX5_rowsTo 86 = .ok (.aload_n 2, 1) := by decide +kernel
theorem dX5_rowsTo_87 : decode cX5_rowsTo 87 = .ok (.iload_n 3, 1) := by decide +kernel
theorem dX5_rowsTo_88 : decode cX5_rowsTo 88 = .ok (.iconst 1, 1) := by decide +kernel
theorem dX5_rowsTo_89 : decode cX5_rowsTo 89 = .ok (.isub, 1) := by decide +kernel
theorem dX5_rowsTo_90 : decode cX5_rowsTo 90 = .ok (.invokestatic 211, 3) := by decide +kernel
theorem dX5_rowsTo_93 : decode cX5_rowsTo 93 = .ok (.iadd, 1) := by decide +kernel
theorem dX5_rowsTo_94 : decode cX5_rowsTo 94 = .ok (.istore 5, 2) := by decide +kernel
theorem dX5_rowsTo_96 : decode cX5_rowsTo 96 = .ok (.iinc 7 1, 3) := by decide +kernel
theorem dX5_rowsTo_99 : decode cX5_rowsTo 99 = .ok (.goto (-41), 3) := by decide +kernel
theorem dX5_rowsTo_102 : decode cX5_rowsTo 102 = .ok (.iload 5, 2) := by decide +kernel
theorem dX5_rowsTo_104 : decode cX5_rowsTo 104 = .ok (.ireturn, 1) := by decide +kernel
theorem dX5_greatestCommon_0 : decode cX5_greatestCommon 0 = .ok (.iload_n 0, 1) := by decide +kernel
theorem dX5_greatestCommon_1 : decode cX5_greatestCommon 1 = .ok (.istore_n 2, 1) := by decide +kernel
theorem dX5_greatestCommon_2 : decode cX5_greatestCommon 2 = .ok (.iload_n 1, 1) := by decide +kernel
theorem dX5_greatestCommon_3 : decode cX5_greatestCommon 3 = .ok (.istore_n 3, 1) := by decide +kernel
theorem dX5_greatestCommon_4 : decode cX5_greatestCommon 4 = .ok (.iconst 0, 1) := by decide +kernel
theorem dX5_greatestCommon_5 : decode cX5_greatestCommon 5 = .ok (.istore 4, 2) := by decide +kernel
theorem dX5_greatestCommon_7 : decode cX5_greatestCommon 7 = .ok (.iload 4, 2) := by decide +kernel
theorem dX5_greatestCommon_9 : decode cX5_greatestCommon 9 = .ok (.bipush 64, 2) := by decide +kernel
theorem dX5_greatestCommon_11 : decode cX5_greatestCommon 11 = .ok (.if_icmp .ge 23, 3) := by decide +kernel
theorem dX5_greatestCommon_14 : decode cX5_greatestCommon 14 = .ok (.iload_n 3, 1) := by decide +kernel
theorem dX5_greatestCommon_15 : decode cX5_greatestCommon 15 = .ok (.ifCond .le 19, 3) := by decide +kernel
theorem dX5_greatestCommon_18 : decode cX5_greatestCommon 18 = .ok (.iload_n 2, 1) := by decide +kernel
theorem dX5_greatestCommon_19 : decode cX5_greatestCommon 19 = .ok (.iload_n 3, 1) := by decide +kernel
theorem dX5_greatestCommon_20 : decode cX5_greatestCommon 20 = .ok (.irem, 1) := by decide +kernel
theorem dX5_greatestCommon_21 : decode cX5_greatestCommon 21 = .ok (.istore 5, 2) := by decide +kernel
theorem dX5_greatestCommon_23 : decode cX5_greatestCommon 23 = .ok (.iload_n 3, 1) := by decide +kernel
theorem dX5_greatestCommon_24 : decode cX5_greatestCommon 24 = .ok (.istore_n 2, 1) := by decide +kernel
theorem dX5_greatestCommon_25 : decode cX5_greatestCommon 25 = .ok (.iload 5, 2) := by decide +kernel
theorem dX5_greatestCommon_27 : decode cX5_greatestCommon 27 = .ok (.istore_n 3, 1) := by decide +kernel
theorem dX5_greatestCommon_28 : decode cX5_greatestCommon 28 = .ok (.iinc 4 1, 3) := by decide +kernel
theorem dX5_greatestCommon_31 : decode cX5_greatestCommon 31 = .ok (.goto (-24), 3) := by decide +kernel
theorem dX5_greatestCommon_34 : decode cX5_greatestCommon 34 = .ok (.iload_n 2, 1) := by decide +kernel
theorem dX5_greatestCommon_35 : decode cX5_greatestCommon 35 = .ok (.ireturn, 1) := by decide +kernel
theorem dX5_has_0 : decode cX5_has 0 = .ok (.iload_n 0, 1) := by decide +kernel
theorem dX5_has_1 : decode cX5_has 1 = .ok (.iload_n 1, 1) := by decide +kernel
theorem dX5_has_2 : decode cX5_has 2 = .ok (.ishr, 1) := by decide +kernel
theorem dX5_has_3 : decode cX5_has 3 = .ok (.iconst 1, 1) := by decide +kernel
theorem dX5_has_4 : decode cX5_has 4 = .ok (.iand, 1) := by decide +kernel
theorem dX5_has_5 : decode cX5_has 5 = .ok (.ifCond .eq 7, 3) := by decide +kernel
theorem dX5_has_8 : decode cX5_has 8 = .ok (.iconst 1, 1) := by decide +kernel
theorem dX5_has_9 : decode cX5_has 9 = .ok (.goto 4, 3) := by decide +kernel
theorem dX5_has_12 : decode cX5_has 12 = .ok (.iconst 0, 1) := by decide +kernel
theorem dX5_has_13 : decode cX5_has 13 = .ok (.ireturn, 1) := by decide +kernel
theorem dX5_lowest_0 : decode cX5_lowest 0 = .ok (.iload_n 0, 1) := by decide +kernel
theorem dX5_lowest_1 : decode cX5_lowest 1 = .ok (.iload_n 0, 1) := by decide +kernel
theorem dX5_lowest_2 : decode cX5_lowest 2 = .ok (.ineg, 1) := by decide +kernel
theorem dX5_lowest_3 : decode cX5_lowest 3 = .ok (.iand, 1) := by decide +kernel
theorem dX5_lowest_4 : decode cX5_lowest 4 = .ok (.iconst 1, 1) := by decide +kernel
theorem dX5_lowest_5 : decode cX5_lowest 5 = .ok (.isub, 1) := by decide +kernel
theorem dX5_lowest_6 : decode cX5_lowest 6 = .ok (.invokestatic 263, 3) := by decide +kernel
theorem dX5_lowest_9 : decode cX5_lowest 9 = .ok (.ireturn, 1) := by decide +kernel
theorem dX5_at_0 : decode cX5_at 0 = .ok (.iload_n 1, 1) := by decide +kernel
theorem dX5_at_1 : decode cX5_at 1 = .ok (.ifCond .lt 15, 3) := by decide +kernel
theorem dX5_at_4 : decode cX5_at 4 = .ok (.iload_n 1, 1) := by decide +kernel
theorem dX5_at_5 : decode cX5_at 5 = .ok (.aload_n 0, 1) := by decide +kernel
theorem dX5_at_6 : decode cX5_at 6 = .ok (.arraylength, 1) := by decide +kernel
theorem dX5_at_7 : decode cX5_at 7 = .ok (.if_icmp .ge 9, 3) := by decide +kernel
theorem dX5_at_10 : decode cX5_at 10 = .ok (.aload_n 0, 1) := by decide +kernel
theorem dX5_at_11 : decode cX5_at 11 = .ok (.iload_n 1, 1) := by decide +kernel
theorem dX5_at_12 : decode cX5_at 12 = .ok (.iaload, 1) := by decide +kernel
theorem dX5_at_13 : decode cX5_at 13 = .ok (.goto 4, 3) := by decide +kernel
theorem dX5_at_16 : decode cX5_at 16 = .ok (.iconst 0, 1) := by decide +kernel
theorem dX5_at_17 : decode cX5_at 17 = .ok (.ireturn, 1) := by decide +kernel
theorem dX5_lay_0 : decode cX5_lay 0 = .ok (.iload_n 1, 1) := by decide +kernel
theorem dX5_lay_1 : decode cX5_lay 1 = .ok (.ifCond .lt 13, 3) := by decide +kernel
theorem dX5_lay_4 : decode cX5_lay 4 = .ok (.iload_n 1, 1) := by decide +kernel
theorem dX5_lay_5 : decode cX5_lay 5 = .ok (.aload_n 0, 1) := by decide +kernel
theorem dX5_lay_6 : decode cX5_lay 6 = .ok (.arraylength, 1) := by decide +kernel
theorem dX5_lay_7 : decode cX5_lay 7 = .ok (.if_icmp .ge 7, 3) := by decide +kernel
theorem dX5_lay_10 : decode cX5_lay 10 = .ok (.aload_n 0, 1) := by decide +kernel
theorem dX5_lay_11 : decode cX5_lay 11 = .ok (.iload_n 1, 1) := by decide +kernel
theorem dX5_lay_12 : decode cX5_lay 12 = .ok (.iload_n 2, 1) := by decide +kernel
theorem dX5_lay_13 : decode cX5_lay 13 = .ok (.iastore, 1) := by decide +kernel
theorem dX5_lay_14 : decode cX5_lay 14 = .ok (.return_, 1) := by decide +kernel
theorem dX5_letter_0 : decode cX5_letter 0 = .ok (.iload_n 0, 1) := by decide +kernel
theorem dX5_letter_1 : decode cX5_letter 1 = .ok (.ifCond .lt 23, 3) := by decide +kernel
theorem dX5_letter_4 : decode cX5_letter 4 = .ok (.iload_n 0, 1) := by decide +kernel
theorem dX5_letter_5 : decode cX5_letter 5 = .ok (.ldc_w 268, 3) := by decide +kernel
theorem dX5_letter_8 : decode cX5_letter 8 = .ok (.invokevirtual 270, 3) := by decide +kernel
theorem dX5_letter_11 : decode cX5_letter 11 = .ok (.if_icmp .ge 13, 3) := by decide +kernel
theorem dX5_letter_14 : decode cX5_letter 14 = .ok (.ldc_w 268, 3) := by decide +kernel
theorem dX5_letter_17 : decode cX5_letter 17 = .ok (.iload_n 0, 1) := by decide +kernel
theorem dX5_letter_18 : decode cX5_letter 18 = .ok (.invokevirtual 274, 3) := by decide +kernel
theorem dX5_letter_21 : decode cX5_letter 21 = .ok (.goto 4, 3) := by decide +kernel
theorem dX5_letter_24 : decode cX5_letter 24 = .ok (.iconst 0, 1) := by decide +kernel
theorem dX5_letter_25 : decode cX5_letter 25 = .ok (.ireturn, 1) := by decide +kernel
theorem dX5_sideOf_0 : decode cX5_sideOf 0 = .ok (.iload_n 0, 1) := by decide +kernel
theorem dX5_sideOf_1 : decode cX5_sideOf 1 = .ok (.iconst 2, 1) := by decide +kernel
theorem dX5_sideOf_2 : decode cX5_sideOf 2 = .ok (.if_icmp .ge 6, 3) := by decide +kernel
theorem dX5_sideOf_5 : decode cX5_sideOf 5 = .ok (.bipush (-9), 2) := by decide +kernel
theorem dX5_sideOf_7 : decode cX5_sideOf 7 = .ok (.ireturn, 1) := by decide +kernel
theorem dX5_sideOf_8 : decode cX5_sideOf 8 = .ok (.iload_n 0, 1) := by decide +kernel
theorem dX5_sideOf_9 : decode cX5_sideOf 9 = .ok (.bipush 7, 2) := by decide +kernel
theorem dX5_sideOf_11 : decode cX5_sideOf 11 = .ok (.if_icmp .ge 7, 3) := by decide +kernel
theorem dX5_sideOf_14 : decode cX5_sideOf 14 = .ok (.iconst 0, 1) := by decide +kernel
theorem dX5_sideOf_15 : decode cX5_sideOf 15 = .ok (.goto 4, 3) := by decide +kernel
theorem dX5_sideOf_18 : decode cX5_sideOf 18 = .ok (.iconst 1, 1) := by decide +kernel
theorem dX5_sideOf_19 : decode cX5_sideOf 19 = .ok (.ireturn, 1) := by decide +kernel
theorem dX5_kindOf_0 : decode cX5_kindOf 0 = .ok (.iload_n 0, 1) := by decide +kernel
theorem dX5_kindOf_1 : decode cX5_kindOf 1 = .ok (.iconst 2, 1) := by decide +kernel
theorem dX5_kindOf_2 : decode cX5_kindOf 2 = .ok (.if_icmp .ge 5, 3) := by decide +kernel
theorem dX5_kindOf_5 : decode cX5_kindOf 5 = .ok (.iconst (-1), 1) := by decide +kernel
theorem dX5_kindOf_6 : decode cX5_kindOf 6 = .ok (.ireturn, 1) := by decide +kernel
theorem dX5_kindOf_7 : decode cX5_kindOf 7 = .ok (.iload_n 0, 1) := by decide +kernel
theorem dX5_kindOf_8 : decode cX5_kindOf 8 = .ok (.bipush 7, 2) := by decide +kernel
theorem dX5_kindOf_10 : decode cX5_kindOf 10 = .ok (.if_icmp .ge 9, 3) := by decide +kernel
theorem dX5_kindOf_13 : decode cX5_kindOf 13 = .ok (.iload_n 0, 1) := by decide +kernel
theorem dX5_kindOf_14 : decode cX5_kindOf 14 = .ok (.iconst 2, 1) := by decide +kernel
theorem dX5_kindOf_15 : decode cX5_kindOf 15 = .ok (.isub, 1) := by decide +kernel
theorem dX5_kindOf_16 : decode cX5_kindOf 16 = .ok (.goto 7, 3) := by decide +kernel
theorem dX5_kindOf_19 : decode cX5_kindOf 19 = .ok (.iload_n 0, 1) := by decide +kernel
theorem dX5_kindOf_20 : decode cX5_kindOf 20 = .ok (.bipush 7, 2) := by decide +kernel
theorem dX5_kindOf_22 : decode cX5_kindOf 22 = .ok (.isub, 1) := by decide +kernel
theorem dX5_kindOf_23 : decode cX5_kindOf 23 = .ok (.ireturn, 1) := by decide +kernel
end
section
theorem dX6_init_0 : decode cX6_init 0 = .ok (.aload_n 0, 1) := by decide +kernel
theorem dX6_init_1 : decode cX6_init 1 = .ok (.invokespecial 1, 3) := by decide +kernel
theorem dX6_init_4 : decode cX6_init 4 = .ok (.aload_n 0, 1) := by decide +kernel
theorem dX6_init_5 : decode cX6_init 5 = .ok (.bipush 64, 2) := by decide +kernel
theorem dX6_init_7 : decode cX6_init 7 = .ok (.newarray .int, 2) := by decide +kernel
theorem dX6_init_9 : decode cX6_init 9 = .ok (.putfield 7, 3) := by decide +kernel
theorem dX6_init_12 : decode cX6_init 12 = .ok (.aload_n 0, 1) := by decide +kernel
theorem dX6_init_13 : decode cX6_init 13 = .ok (.bipush 64, 2) := by decide +kernel
theorem dX6_init_15 : decode cX6_init 15 = .ok (.newarray .int, 2) := by decide +kernel
theorem dX6_init_17 : decode cX6_init 17 = .ok (.putfield 13, 3) := by decide +kernel
theorem dX6_init_20 : decode cX6_init 20 = .ok (.aload_n 0, 1) := by decide +kernel
theorem dX6_init_21 : decode cX6_init 21 = .ok (.iconst 4, 1) := by decide +kernel
theorem dX6_init_22 : decode cX6_init 22 = .ok (.newarray .int, 2) := by decide +kernel
theorem dX6_init_24 : decode cX6_init 24 = .ok (.putfield 16, 3) := by decide +kernel
theorem dX6_init_27 : decode cX6_init 27 = .ok (.aload_n 0, 1) := by decide +kernel
theorem dX6_init_28 : decode cX6_init 28 = .ok (.iconst 4, 1) := by decide +kernel
theorem dX6_init_29 : decode cX6_init 29 = .ok (.newarray .int, 2) := by decide +kernel
theorem dX6_init_31 : decode cX6_init 31 = .ok (.putfield 19, 3) := by decide +kernel
theorem dX6_init_34 : decode cX6_init 34 = .ok (.aload_n 0, 1) := by decide +kernel
theorem dX6_init_35 : decode cX6_init 35 = .ok (.bipush 24, 2) := by decide +kernel
theorem dX6_init_37 : decode cX6_init 37 = .ok (.newarray .int, 2) := by decide +kernel
theorem dX6_init_39 : decode cX6_init 39 = .ok (.putfield 22, 3) := by decide +kernel
theorem dX6_init_42 : decode cX6_init 42 = .ok (.aload_n 0, 1) := by decide +kernel
theorem dX6_init_43 : decode cX6_init 43 = .ok (.sipush 1024, 3) := by decide +kernel
theorem dX6_init_46 : decode cX6_init 46 = .ok (.newarray .int, 2) := by decide +kernel
theorem dX6_init_48 : decode cX6_init 48 = .ok (.putfield 25, 3) := by decide +kernel
theorem dX6_init_51 : decode cX6_init 51 = .ok (.aload_n 0, 1) := by decide +kernel
theorem dX6_init_52 : decode cX6_init 52 = .ok (.iconst 4, 1) := by decide +kernel
theorem dX6_init_53 : decode cX6_init 53 = .ok (.newarray .int, 2) := by decide +kernel
theorem dX6_init_55 : decode cX6_init 55 = .ok (.putfield 28, 3) := by decide +kernel
theorem dX6_init_58 : decode cX6_init 58 = .ok (.aload_n 0, 1) := by decide +kernel
theorem dX6_init_59 : decode cX6_init 59 = .ok (.sipush 544, 3) := by decide +kernel
theorem dX6_init_62 : decode cX6_init 62 = .ok (.newarray .int, 2) := by decide +kernel
theorem dX6_init_64 : decode cX6_init 64 = .ok (.putfield 31, 3) := by decide +kernel
theorem dX6_init_67 : decode cX6_init 67 = .ok (.aload_n 0, 1) := by decide +kernel
theorem dX6_init_68 : decode cX6_init 68 = .ok (.sipush 256, 3) := by decide +kernel
theorem dX6_init_71 : decode cX6_init 71 = .ok (.newarray .int, 2) := by decide +kernel
theorem dX6_init_73 : decode cX6_init 73 = .ok (.putfield 34, 3) := by decide +kernel
theorem dX6_init_76 : decode cX6_init 76 = .ok (.aload_n 0, 1) := by decide +kernel
theorem dX6_init_77 : decode cX6_init 77 = .ok (.bipush 16, 2) := by decide +kernel
theorem dX6_init_79 : decode cX6_init 79 = .ok (.newarray .int, 2) := by decide +kernel
theorem dX6_init_81 : decode cX6_init 81 = .ok (.putfield 37, 3) := by decide +kernel
theorem dX6_init_84 : decode cX6_init 84 = .ok (.aload_n 0, 1) := by decide +kernel
theorem dX6_init_85 : decode cX6_init 85 = .ok (.iconst 2, 1) := by decide +kernel
theorem dX6_init_86 : decode cX6_init 86 = .ok (.newarray .boolean, 2) := by decide +kernel
theorem dX6_init_88 : decode cX6_init 88 = .ok (.putfield 40, 3) := by decide +kernel
theorem dX6_init_91 : decode cX6_init 91 = .ok (.aload_n 0, 1) := by decide +kernel
theorem dX6_init_92 : decode cX6_init 92 = .ok (.bipush 68, 2) := by decide +kernel
theorem dX6_init_94 : decode cX6_init 94 = .ok (.newarray .int, 2) := by decide +kernel
theorem dX6_init_96 : decode cX6_init 96 = .ok (.putfield 44, 3) := by decide +kernel
theorem dX6_init_99 : decode cX6_init 99 = .ok (.aload_n 0, 1) := by decide +kernel
theorem dX6_init_100 : decode cX6_init 100 = .ok (.iconst 1, 1) := by decide +kernel
theorem dX6_init_101 : decode cX6_init 101 = .ok (.putfield 47, 3) := by decide +kernel
theorem dX6_init_104 : decode cX6_init 104 = .ok (.aload_n 0, 1) := by decide +kernel
theorem dX6_init_105 : decode cX6_init 105 = .ok (.iconst 1, 1) := by decide +kernel
theorem dX6_init_106 : decode cX6_init 106 = .ok (.putfield 51, 3) := by decide +kernel
theorem dX6_init_109 : decode cX6_init 109 = .ok (.aload_n 0, 1) := by decide +kernel
theorem dX6_init_110 : decode cX6_init 110 = .ok (.getfield 7, 3) := by decide +kernel
theorem dX6_init_113 : decode cX6_init 113 = .ok (.iconst 0, 1) := by decide +kernel
theorem dX6_init_114 : decode cX6_init 114 = .ok (.bipush 46, 2) := by decide +kernel
theorem dX6_init_116 : decode cX6_init 116 = .ok (.iastore, 1) := by decide +kernel
theorem dX6_init_117 : decode cX6_init 117 = .ok (.aload_n 0, 1) := by decide +kernel
theorem dX6_init_118 : decode cX6_init 118 = .ok (.getfield 19, 3) := by decide +kernel
theorem dX6_init_121 : decode cX6_init 121 = .ok (.iconst 0, 1) := by decide +kernel
theorem dX6_init_122 : decode cX6_init 122 = .ok (.bipush (-9), 2) := by decide +kernel
theorem dX6_init_124 : decode cX6_init 124 = .ok (.iastore, 1) := by decide +kernel
theorem dX6_init_125 : decode cX6_init 125 = .ok (.return_, 1) := by decide +kernel
theorem dX6_in_0 : decode cX6_in 0 = .ok (.lload_n 0, 1) := by decide +kernel
theorem dX6_in_1 : decode cX6_in 1 = .ok (.lload_n 2, 1) := by decide +kernel
theorem dX6_in_2 : decode cX6_in 2 = .ok (.lcmp, 1) := by decide +kernel
theorem dX6_in_3 : decode cX6_in 3 = .ok (.ifCond .lt 14, 3) := by decide +kernel
theorem dX6_in_6 : decode cX6_in 6 = .ok (.lload_n 0, 1) := by decide +kernel
theorem dX6_in_7 : decode cX6_in 7 = .ok (.lload 4, 2) := by decide +kernel
theorem dX6_in_9 : decode cX6_in 9 = .ok (.lcmp, 1) := by decide +kernel
theorem dX6_in_10 : decode cX6_in 10 = .ok (.ifCond .gt 7, 3) := by decide +kernel
theorem dX6_in_13 : decode cX6_in 13 = .ok (.iconst 1, 1) := by decide +kernel
theorem dX6_in_14 : decode cX6_in 14 = .ok (.goto 4, 3) := by decide +kernel
theorem dX6_in_17 : decode cX6_in 17 = .ok (.iconst 0, 1) := by decide +kernel
theorem dX6_in_18 : decode cX6_in 18 = .ok (.ireturn, 1) := by decide +kernel
theorem dX6_write_0 : decode cX6_write 0 = .ok (.iload_n 1, 1) := by decide +kernel
theorem dX6_write_1 : decode cX6_write 1 = .ok (.i2l, 1) := by decide +kernel
theorem dX6_write_2 : decode cX6_write 2 = .ok (.lconst 1, 1) := by decide +kernel
theorem dX6_write_3 : decode cX6_write 3 = .ok (.ldc2_w 54, 3) := by decide +kernel
theorem dX6_write_6 : decode cX6_write 6 = .ok (.invokestatic 56, 3) := by decide +kernel
theorem dX6_write_9 : decode cX6_write 9 = .ok (.ifCond .ne 6, 3) := by decide +kernel
theorem dX6_write_12 : decode cX6_write 12 = .ok (.bipush (-2), 2) := by decide +kernel
theorem dX6_write_14 : decode cX6_write 14 = .ok (.ireturn, 1) := by decide +kernel
theorem dX6_write_15 : decode cX6_write 15 = .ok (.aload_n 0, 1) := by decide +kernel
theorem dX6_write_16 : decode cX6_write 16 = .ok (.getfield 60, 3) := by decide +kernel
theorem dX6_write_19 : decode cX6_write 19 = .ok (.iload_n 1, 1) := by decide +kernel
theorem dX6_write_20 : decode cX6_write 20 = .ok (.iadd, 1) := by decide +kernel
theorem dX6_write_21 : decode cX6_write 21 = .ok (.bipush 24, 2) := by decide +kernel
theorem dX6_write_23 : decode cX6_write 23 = .ok (.if_icmp .le 6, 3) := by decide +kernel
theorem dX6_write_26 : decode cX6_write 26 = .ok (.bipush (-4), 2) := by decide +kernel
theorem dX6_write_28 : decode cX6_write 28 = .ok (.ireturn, 1) := by decide +kernel
theorem dX6_write_29 : decode cX6_write 29 = .ok (.iload_n 1, 1) := by decide +kernel
theorem dX6_write_30 : decode cX6_write 30 = .ok (.iconst 1, 1) := by decide +kernel
theorem dX6_write_31 : decode cX6_write 31 = .ok (.isub, 1) := by decide +kernel
theorem dX6_write_32 : decode cX6_write 32 = .ok (.istore 4, 2) := by decide +kernel
theorem dX6_write_34 : decode cX6_write 34 = .ok (.iload 4, 2) := by decide +kernel
theorem dX6_write_36 : decode cX6_write 36 = .ok (.ifCond .lt 40, 3) := by decide +kernel
theorem dX6_write_39 : decode cX6_write 39 = .ok (.aload_n 0, 1) := by decide +kernel
theorem dX6_write_40 : decode cX6_write 40 = .ok (.getfield 22, 3) := by decide +kernel
theorem dX6_write_43 : decode cX6_write 43 = .ok (.aload_n 0, 1) := by decide +kernel
theorem dX6_write_44 : decode cX6_write 44 = .ok (.getfield 60, 3) := by decide +kernel
theorem dX6_write_47 : decode cX6_write 47 = .ok (.lload_n 2, 1) := by decide +kernel
theorem dX6_write_48 : decode cX6_write 48 = .ok (.bipush 8, 2) := by decide +kernel
theorem dX6_write_50 : decode cX6_write 50 = .ok (.iload 4, 2) := by decide +kernel
theorem dX6_write_52 : decode cX6_write 52 = .ok (.imul, 1) := by decide +kernel
theorem dX6_write_53 : decode cX6_write 53 = .ok (.lshr, 1) := by decide +kernel
theorem dX6_write_54 : decode cX6_write 54 = .ok (.ldc2_w 63, 3) := by decide +kernel
theorem dX6_write_57 : decode cX6_write 57 = .ok (.land, 1) := by decide +kernel
theorem dX6_write_58 : decode cX6_write 58 = .ok (.l2i, 1) := by decide +kernel
theorem dX6_write_59 : decode cX6_write 59 = .ok (.iastore, 1) := by decide +kernel
theorem dX6_write_60 : decode cX6_write 60 = .ok (.aload_n 0, 1) := by decide +kernel
theorem dX6_write_61 : decode cX6_write 61 = .ok (.dup, 1) := by decide +kernel
theorem dX6_write_62 : decode cX6_write 62 = .ok (.getfield 60, 3) := by decide +kernel
theorem dX6_write_65 : decode cX6_write 65 = .ok (.iconst 1, 1) := by decide +kernel
theorem dX6_write_66 : decode cX6_write 66 = .ok (.iadd, 1) := by decide +kernel
theorem dX6_write_67 : decode cX6_write 67 = .ok (.putfield 60, 3) := by decide +kernel
theorem dX6_write_70 : decode cX6_write 70 = .ok (.iinc 4 (-1), 3) := by decide +kernel
theorem dX6_write_73 : decode cX6_write 73 = .ok (.goto (-39), 3) := by decide +kernel
theorem dX6_write_76 : decode cX6_write 76 = .ok (.aload_n 0, 1) := by decide +kernel
theorem dX6_write_77 : decode cX6_write 77 = .ok (.getfield 60, 3) := by decide +kernel
theorem dX6_write_80 : decode cX6_write 80 = .ok (.ireturn, 1) := by decide +kernel
theorem dX6_wipe_0 : decode cX6_wipe 0 = .ok (.aload_n 0, 1) := by decide +kernel
theorem dX6_wipe_1 : decode cX6_wipe 1 = .ok (.getfield 60, 3) := by decide +kernel
theorem dX6_wipe_4 : decode cX6_wipe 4 = .ok (.istore_n 1, 1) := by decide +kernel
theorem dX6_wipe_5 : decode cX6_wipe 5 = .ok (.aload_n 0, 1) := by decide +kernel
theorem dX6_wipe_6 : decode cX6_wipe 6 = .ok (.iconst 0, 1) := by decide +kernel
theorem dX6_wipe_7 : decode cX6_wipe 7 = .ok (.putfield 60, 3) := by decide +kernel
theorem dX6_wipe_10 : decode cX6_wipe 10 = .ok (.iload_n 1, 1) := by decide +kernel
theorem dX6_wipe_11 : decode cX6_wipe 11 = .ok (.ireturn, 1) := by decide +kernel
theorem dX6_sideOf_0 : decode cX6_sideOf 0 = .ok (.iload_n 0, 1) := by decide +kernel
theorem dX6_sideOf_1 : decode cX6_sideOf 1 = .ok (.lookupswitch 95 #[(66, 91), (75, 91), (78, 91), (80, 91), (82, 91), (98, 93), (107, 93), (110, 93), (112, 93), (114, 93)], 91) := by decide +kernel
theorem dX6_sideOf_92 : decode cX6_sideOf 92 = .ok (.iconst 0, 1) := by decide +kernel
theorem dX6_sideOf_93 : decode cX6_sideOf 93 = .ok (.ireturn, 1) := by decide +kernel
theorem dX6_sideOf_94 : decode cX6_sideOf 94 = .ok (.iconst 1, 1) := by decide +kernel
theorem dX6_sideOf_95 : decode cX6_sideOf 95 = .ok (.ireturn, 1) := by decide +kernel
theorem dX6_sideOf_96 : decode cX6_sideOf 96 = .ok (.bipush (-9), 2) := by decide +kernel
theorem dX6_sideOf_98 : decode cX6_sideOf 98 = .ok (.ireturn, 1) := by decide +kernel
theorem dX6_isCellSign_0 : decode cX6_isCellSign 0 = .ok (.iload_n 0, 1) := by decide +kernel
theorem dX6_isCellSign_1 : decode cX6_isCellSign 1 = .ok (.bipush 46, 2) := by decide +kernel
theorem dX6_isCellSign_3 : decode cX6_isCellSign 3 = .ok (.if_icmp .eq 18, 3) := by decide +kernel
theorem dX6_isCellSign_6 : decode cX6_isCellSign 6 = .ok (.iload_n 0, 1) := by decide +kernel
theorem dX6_isCellSign_7 : decode cX6_isCellSign 7 = .ok (.bipush 35, 2) := by decide +kernel
theorem dX6_isCellSign_9 : decode cX6_isCellSign 9 = .ok (.if_icmp .eq 12, 3) := by decide +kernel
theorem dX6_isCellSign_12 : decode cX6_isCellSign 12 = .ok (.iload_n 0, 1) := by decide +kernel
theorem dX6_isCellSign_13 : decode cX6_isCellSign 13 = .ok (.invokestatic 65, 3) := by decide +kernel
theorem dX6_isCellSign_16 : decode cX6_isCellSign 16 = .ok (.bipush (-9), 2) := by decide +kernel
theorem dX6_isCellSign_18 : decode cX6_isCellSign 18 = .ok (.if_icmp .eq 7, 3) := by decide +kernel
theorem dX6_isCellSign_21 : decode cX6_isCellSign 21 = .ok (.iconst 1, 1) := by decide +kernel
theorem dX6_isCellSign_22 : decode cX6_isCellSign 22 = .ok (.goto 4, 3) := by decide +kernel
theorem dX6_isCellSign_25 : decode cX6_isCellSign 25 = .ok (.iconst 0, 1) := by decide +kernel
theorem dX6_isCellSign_26 : decode cX6_isCellSign 26 = .ok (.ireturn, 1) := by decide +kernel
theorem dX6_fits_0 : decode cX6_fits 0 = .ok (.aload_n 0, 1) := by decide +kernel
theorem dX6_fits_1 : decode cX6_fits 1 = .ok (.getfield 22, 3) := by decide +kernel
theorem dX6_fits_4 : decode cX6_fits 4 = .ok (.iload_n 1, 1) := by decide +kernel
theorem dX6_fits_5 : decode cX6_fits 5 = .ok (.iaload, 1) := by decide +kernel
theorem dX6_fits_6 : decode cX6_fits 6 = .ok (.istore_n 2, 1) := by decide +kernel
theorem dX6_fits_7 : decode cX6_fits 7 = .ok (.iload_n 1, 1) := by decide +kernel
theorem dX6_fits_8 : decode cX6_fits 8 = .ok (.tableswitch 90 0 4 #[36, 48, 48, 60, 72], 36) := by decide +kernel
theorem dX6_fits_44 : decode cX6_fits 44 = .ok (.iload_n 2, 1) := by decide +kernel
theorem dX6_fits_45 : decode cX6_fits 45 = .ok (.bipush 71, 2) := by decide +kernel
theorem dX6_fits_47 : decode cX6_fits 47 = .ok (.if_icmp .ne 7, 3) := by decide +kernel
theorem dX6_fits_50 : decode cX6_fits 50 = .ok (.iconst 1, 1) := by decide +kernel
theorem dX6_fits_51 : decode cX6_fits 51 = .ok (.goto 4, 3) := by decide +kernel
theorem dX6_fits_54 : decode cX6_fits 54 = .ok (.iconst 0, 1) := by decide +kernel
theorem dX6_fits_55 : decode cX6_fits 55 = .ok (.ireturn, 1) := by decide +kernel
theorem dX6_fits_56 : decode cX6_fits 56 = .ok (.iload_n 2, 1) := by decide +kernel
theorem dX6_fits_57 : decode cX6_fits 57 = .ok (.i2l, 1) := by decide +kernel
theorem dX6_fits_58 : decode cX6_fits 58 = .ok (.ldc2_w 69, 3) := by decide +kernel
theorem dX6_fits_61 : decode cX6_fits 61 = .ok (.ldc2_w 71, 3) := by decide +kernel
theorem dX6_fits_64 : decode cX6_fits 64 = .ok (.invokestatic 56, 3) := by decide +kernel
theorem dX6_fits_67 : decode cX6_fits 67 = .ok (.ireturn, 1) := by decide +kernel
theorem dX6_fits_68 : decode cX6_fits 68 = .ok (.iload_n 2, 1) := by decide +kernel
theorem dX6_fits_69 : decode cX6_fits 69 = .ok (.i2l, 1) := by decide +kernel
theorem dX6_fits_70 : decode cX6_fits 70 = .ok (.ldc2_w 73, 3) := by decide +kernel
theorem dX6_fits_73 : decode cX6_fits 73 = .ok (.ldc2_w 75, 3) := by decide +kernel
theorem dX6_fits_76 : decode cX6_fits 76 = .ok (.invokestatic 56, 3) := by decide +kernel
theorem dX6_fits_79 : decode cX6_fits 79 = .ok (.ireturn, 1) := by decide +kernel
theorem dX6_fits_80 : decode cX6_fits 80 = .ok (.iload_n 2, 1) := by decide +kernel
theorem dX6_fits_81 : decode cX6_fits 81 = .ok (.bipush 119, 2) := by decide +kernel
theorem dX6_fits_83 : decode cX6_fits 83 = .ok (.if_icmp .eq 9, 3) := by decide +kernel
theorem dX6_fits_86 : decode cX6_fits 86 = .ok (.iload_n 2, 1) := by decide +kernel
theorem dX6_fits_87 : decode cX6_fits 87 = .ok (.bipush 98, 2) := by decide +kernel
theorem dX6_fits_89 : decode cX6_fits 89 = .ok (.if_icmp .ne 7, 3) := by decide +kernel
theorem dX6_fits_92 : decode cX6_fits 92 = .ok (.iconst 1, 1) := by decide +kernel
theorem dX6_fits_93 : decode cX6_fits 93 = .ok (.goto 4, 3) := by decide +kernel
theorem dX6_fits_96 : decode cX6_fits 96 = .ok (.iconst 0, 1) := by decide +kernel
theorem dX6_fits_97 : decode cX6_fits 97 = .ok (.ireturn, 1) := by decide +kernel
theorem dX6_fits_98 : decode cX6_fits 98 = .ok (.iload_n 1, 1) := by decide +kernel
theorem dX6_fits_99 : decode cX6_fits 99 = .ok (.iconst 5, 1) := by decide +kernel
theorem dX6_fits_100 : decode cX6_fits 100 = .ok (.aload_n 0, 1) := by decide +kernel
theorem dX6_fits_101 : decode cX6_fits 101 = .ok (.getfield 22, 3) := by decide +kernel
theorem dX6_fits_104 : decode cX6_fits 104 = .ok (.iconst 1, 1) := by decide +kernel
theorem dX6_fits_105 : decode cX6_fits 105 = .ok (.iaload, 1) := by decide +kernel
theorem dX6_fits_106 : decode cX6_fits 106 = .ok (.bipush 48, 2) := by decide +kernel
theorem dX6_fits_108 : decode cX6_fits 108 = .ok (.isub, 1) := by decide +kernel
theorem dX6_fits_109 : decode cX6_fits 109 = .ok (.aload_n 0, 1) := by decide +kernel
theorem dX6_fits_110 : decode cX6_fits 110 = .ok (.getfield 22, 3) := by decide +kernel
theorem dX6_fits_113 : decode cX6_fits 113 = .ok (.iconst 2, 1) := by decide +kernel
theorem dX6_fits_114 : decode cX6_fits 114 = .ok (.iaload, 1) := by decide +kernel
theorem dX6_fits_115 : decode cX6_fits 115 = .ok (.bipush 48, 2) := by decide +kernel
theorem dX6_fits_117 : decode cX6_fits 117 = .ok (.isub, 1) := by decide +kernel
theorem dX6_fits_118 : decode cX6_fits 118 = .ok (.imul, 1) := by decide +kernel
theorem dX6_fits_119 : decode cX6_fits 119 = .ok (.iadd, 1) := by decide +kernel
theorem dX6_fits_120 : decode cX6_fits 120 = .ok (.if_icmp .ge 14, 3) := by decide +kernel
theorem dX6_fits_123 : decode cX6_fits 123 = .ok (.iload_n 2, 1) := by decide +kernel
theorem dX6_fits_124 : decode cX6_fits 124 = .ok (.invokestatic 77, 3) := by decide +kernel
theorem dX6_fits_127 : decode cX6_fits 127 = .ok (.ifCond .eq 7, 3) := by decide +kernel
theorem dX6_fits_130 : decode cX6_fits 130 = .ok (.iconst 1, 1) := by decide +kernel
theorem dX6_fits_131 : decode cX6_fits 131 = .ok (.goto 4, 3) := by decide +kernel
theorem dX6_fits_134 : decode cX6_fits 134 = .ok (.iconst 0, 1) := by decide +kernel
theorem dX6_fits_135 : decode cX6_fits 135 = .ok (.ireturn, 1) := by decide +kernel
theorem dX6_fault_0 : decode cX6_fault 0 = .ok (.iconst 0, 1) := by decide +kernel
theorem dX6_fault_1 : decode cX6_fault 1 = .ok (.istore_n 1, 1) := by decide +kernel
theorem dX6_fault_2 : decode cX6_fault 2 = .ok (.iload_n 1, 1) := by decide +kernel
theorem dX6_fault_3 : decode cX6_fault 3 = .ok (.aload_n 0, 1) := by decide +kernel
theorem dX6_fault_4 : decode cX6_fault 4 = .ok (.getfield 60, 3) := by decide +kernel
theorem dX6_fault_7 : decode cX6_fault 7 = .ok (.if_icmp .ge 19, 3) := by decide +kernel
theorem dX6_fault_10 : decode cX6_fault 10 = .ok (.aload_n 0, 1) := by decide +kernel
theorem dX6_fault_11 : decode cX6_fault 11 = .ok (.iload_n 1, 1) := by decide +kernel
theorem dX6_fault_12 : decode cX6_fault 12 = .ok (.invokevirtual 81, 3) := by decide +kernel
theorem dX6_fault_15 : decode cX6_fault 15 = .ok (.ifCond .ne 5, 3) := by decide +kernel
theorem dX6_fault_18 : decode cX6_fault 18 = .ok (.iload_n 1, 1) := by decide +kernel
theorem dX6_fault_19 : decode cX6_fault 19 = .ok (.ireturn, 1) := by decide +kernel
theorem dX6_fault_20 : decode cX6_fault 20 = .ok (.iinc 1 1, 3) := by decide +kernel
theorem dX6_fault_23 : decode cX6_fault 23 = .ok (.goto (-21), 3) := by decide +kernel
theorem dX6_fault_26 : decode cX6_fault 26 = .ok (.aload_n 0, 1) := by decide +kernel
theorem dX6_fault_27 : decode cX6_fault 27 = .ok (.getfield 60, 3) := by decide +kernel
theorem dX6_fault_30 : decode cX6_fault 30 = .ok (.iconst 4, 1) := by decide +kernel
theorem dX6_fault_31 : decode cX6_fault 31 = .ok (.if_icmp .le 36, 3) := by decide +kernel
theorem dX6_fault_34 : decode cX6_fault 34 = .ok (.aload_n 0, 1) := by decide +kernel
theorem dX6_fault_35 : decode cX6_fault 35 = .ok (.getfield 60, 3) := by decide +kernel
theorem dX6_fault_38 : decode cX6_fault 38 = .ok (.iconst 5, 1) := by decide +kernel
theorem dX6_fault_39 : decode cX6_fault 39 = .ok (.aload_n 0, 1) := by decide +kernel
theorem dX6_fault_40 : decode cX6_fault 40 = .ok (.getfield 22, 3) := by decide +kernel
theorem dX6_fault_43 : decode cX6_fault 43 = .ok (.iconst 1, 1) := by decide +kernel
theorem dX6_fault_44 : decode cX6_fault 44 = .ok (.iaload, 1) := by decide +kernel
theorem dX6_fault_45 : decode cX6_fault 45 = .ok (.bipush 48, 2) := by decide +kernel
theorem dX6_fault_47 : decode cX6_fault 47 = .ok (.isub, 1) := by decide +kernel
theorem dX6_fault_48 : decode cX6_fault 48 = .ok (.aload_n 0, 1) := by decide +kernel
theorem dX6_fault_49 : decode cX6_fault 49 = .ok (.getfield 22, 3) := by decide +kernel
theorem dX6_fault_52 : decode cX6_fault 52 = .ok (.iconst 2, 1) := by decide +kernel
theorem dX6_fault_53 : decode cX6_fault 53 = .ok (.iaload, 1) := by decide +kernel
theorem dX6_fault_54 : decode cX6_fault 54 = .ok (.bipush 48, 2) := by decide +kernel
theorem dX6_fault_56 : decode cX6_fault 56 = .ok (.isub, 1) := by decide +kernel
theorem dX6_fault_57 : decode cX6_fault 57 = .ok (.imul, 1) := by decide +kernel
theorem dX6_fault_58 : decode cX6_fault 58 = .ok (.iadd, 1) := by decide +kernel
theorem dX6_fault_59 : decode cX6_fault 59 = .ok (.if_icmp .ne 8, 3) := by decide +kernel
theorem dX6_fault_62 : decode cX6_fault 62 = .ok (.bipush (-9), 2) := by decide +kernel
theorem dX6_fault_64 : decode cX6_fault 64 = .ok (.goto 7, 3) := by decide +kernel
theorem dX6_fault_67 : decode cX6_fault 67 = .ok (.aload_n 0, 1) := by decide +kernel
theorem dX6_fault_68 : decode cX6_fault 68 = .ok (.getfield 60, 3) := by decide +kernel
theorem dX6_fault_71 : decode cX6_fault 71 = .ok (.ireturn, 1) := by decide +kernel
theorem dX6_board_0 : decode cX6_board 0 = .ok (.aload_n 0, 1) := by decide +kernel
theorem dX6_board_1 : decode cX6_board 1 = .ok (.invokevirtual 84, 3) := by decide +kernel
theorem dX6_board_4 : decode cX6_board 4 = .ok (.bipush (-9), 2) := by decide +kernel
theorem dX6_board_6 : decode cX6_board 6 = .ok (.if_icmp .eq 6, 3) := by decide +kernel
theorem dX6_board_9 : decode cX6_board 9 = .ok (.bipush (-3), 2) := by decide +kernel
theorem dX6_board_11 : decode cX6_board 11 = .ok (.ireturn, 1) := by decide +kernel
theorem dX6_board_12 : decode cX6_board 12 = .ok (.aload_n 0, 1) := by decide +kernel
theorem dX6_board_13 : decode cX6_board 13 = .ok (.aload_n 0, 1) := by decide +kernel
theorem dX6_board_14 : decode cX6_board 14 = .ok (.getfield 22, 3) := by decide +kernel
theorem dX6_board_17 : decode cX6_board 17 = .ok (.iconst 1, 1) := by decide +kernel
theorem dX6_board_18 : decode cX6_board 18 = .ok (.iaload, 1) := by decide +kernel
theorem dX6_board_19 : decode cX6_board 19 = .ok (.bipush 48, 2) := by decide +kernel
theorem dX6_board_21 : decode cX6_board 21 = .ok (.isub, 1) := by decide +kernel
theorem dX6_board_22 : decode cX6_board 22 = .ok (.putfield 47, 3) := by decide +kernel
theorem dX6_board_25 : decode cX6_board 25 = .ok (.aload_n 0, 1) := by decide +kernel
theorem dX6_board_26 : decode cX6_board 26 = .ok (.aload_n 0, 1) := by decide +kernel
theorem dX6_board_27 : decode cX6_board 27 = .ok (.getfield 22, 3) := by decide +kernel
theorem dX6_board_30 : decode cX6_board 30 = .ok (.iconst 2, 1) := by decide +kernel
theorem dX6_board_31 : decode cX6_board 31 = .ok (.iaload, 1) := by decide +kernel
theorem dX6_board_32 : decode cX6_board 32 = .ok (.bipush 48, 2) := by decide +kernel
theorem dX6_board_34 : decode cX6_board 34 = .ok (.isub, 1) := by decide +kernel
theorem dX6_board_35 : decode cX6_board 35 = .ok (.putfield 51, 3) := by decide +kernel
theorem dX6_board_38 : decode cX6_board 38 = .ok (.aload_n 0, 1) := by decide +kernel
theorem dX6_board_39 : decode cX6_board 39 = .ok (.aload_n 0, 1) := by decide +kernel
theorem dX6_board_40 : decode cX6_board 40 = .ok (.getfield 22, 3) := by decide +kernel
theorem dX6_board_43 : decode cX6_board 43 = .ok (.iconst 3, 1) := by decide +kernel
theorem dX6_board_44 : decode cX6_board 44 = .ok (.iaload, 1) := by decide +kernel
theorem dX6_board_45 : decode cX6_board 45 = .ok (.bipush 48, 2) := by decide +kernel
theorem dX6_board_47 : decode cX6_board 47 = .ok (.isub, 1) := by decide +kernel
theorem dX6_board_48 : decode cX6_board 48 = .ok (.putfield 88, 3) := by decide +kernel
theorem dX6_board_51 : decode cX6_board 51 = .ok (.aload_n 0, 1) := by decide +kernel
theorem dX6_board_52 : decode cX6_board 52 = .ok (.getfield 16, 3) := by decide +kernel
theorem dX6_board_55 : decode cX6_board 55 = .ok (.iconst 0, 1) := by decide +kernel
theorem dX6_board_56 : decode cX6_board 56 = .ok (.aload_n 0, 1) := by decide +kernel
theorem dX6_board_57 : decode cX6_board 57 = .ok (.getfield 22, 3) := by decide +kernel
theorem dX6_board_60 : decode cX6_board 60 = .ok (.iconst 4, 1) := by decide +kernel
theorem dX6_board_61 : decode cX6_board 61 = .ok (.iaload, 1) := by decide +kernel
theorem dX6_board_62 : decode cX6_board 62 = .ok (.bipush 119, 2) := by decide +kernel
theorem dX6_board_64 : decode cX6_board 64 = .ok (.if_icmp .ne 7, 3) := by decide +kernel
theorem dX6_board_67 : decode cX6_board 67 = .ok (.iconst 0, 1) := by decide +kernel
theorem dX6_board_68 : decode cX6_board 68 = .ok (.goto 4, 3) := by decide +kernel
theorem dX6_board_71 : decode cX6_board 71 = .ok (.iconst 1, 1) := by decide +kernel
theorem dX6_board_72 : decode cX6_board 72 = .ok (.iastore, 1) := by decide +kernel
theorem dX6_board_73 : decode cX6_board 73 = .ok (.aload_n 0, 1) := by decide +kernel
theorem dX6_board_74 : decode cX6_board 74 = .ok (.getfield 19, 3) := by decide +kernel
theorem dX6_board_77 : decode cX6_board 77 = .ok (.iconst 0, 1) := by decide +kernel
theorem dX6_board_78 : decode cX6_board 78 = .ok (.bipush (-9), 2) := by decide +kernel
theorem dX6_board_80 : decode cX6_board 80 = .ok (.iastore, 1) := by decide +kernel
theorem dX6_board_81 : decode cX6_board 81 = .ok (.iconst 0, 1) := by decide +kernel
theorem dX6_board_82 : decode cX6_board 82 = .ok (.istore_n 1, 1) := by decide +kernel
theorem dX6_board_83 : decode cX6_board 83 = .ok (.iload_n 1, 1) := by decide +kernel
theorem dX6_board_84 : decode cX6_board 84 = .ok (.bipush 16, 2) := by decide +kernel
theorem dX6_board_86 : decode cX6_board 86 = .ok (.if_icmp .ge 47, 3) := by decide +kernel
theorem dX6_board_89 : decode cX6_board 89 = .ok (.aload_n 0, 1) := by decide +kernel
theorem dX6_board_90 : decode cX6_board 90 = .ok (.getfield 7, 3) := by decide +kernel
theorem dX6_board_93 : decode cX6_board 93 = .ok (.iload_n 1, 1) := by decide +kernel
theorem dX6_board_94 : decode cX6_board 94 = .ok (.iload_n 1, 1) := by decide +kernel
theorem dX6_board_95 : decode cX6_board 95 = .ok (.aload_n 0, 1) := by decide +kernel
theorem dX6_board_96 : decode cX6_board 96 = .ok (.getfield 47, 3) := by decide +kernel
theorem dX6_board_99 : decode cX6_board 99 = .ok (.aload_n 0, 1) := by decide +kernel
theorem dX6_board_100 : decode cX6_board 100 = .ok (.getfield 51, 3) := by decide +kernel
theorem dX6_board_103 : decode cX6_board 103 = .ok (.imul, 1) := by decide +kernel
theorem dX6_board_104 : decode cX6_board 104 = .ok (.if_icmp .ge 14, 3) := by decide +kernel
theorem dX6_board_107 : decode cX6_board 107 = .ok (.aload_n 0, 1) := by decide +kernel
theorem dX6_board_108 : decode cX6_board 108 = .ok (.getfield 22, 3) := by decide +kernel
theorem dX6_board_111 : decode cX6_board 111 = .ok (.iconst 5, 1) := by decide +kernel
theorem dX6_board_112 : decode cX6_board 112 = .ok (.iload_n 1, 1) := by decide +kernel
theorem dX6_board_113 : decode cX6_board 113 = .ok (.iadd, 1) := by decide +kernel
theorem dX6_board_114 : decode cX6_board 114 = .ok (.iaload, 1) := by decide +kernel
theorem dX6_board_115 : decode cX6_board 115 = .ok (.goto 4, 3) := by decide +kernel
theorem dX6_board_118 : decode cX6_board 118 = .ok (.iconst 0, 1) := by decide +kernel
theorem dX6_board_119 : decode cX6_board 119 = .ok (.iastore, 1) := by decide +kernel
theorem dX6_board_120 : decode cX6_board 120 = .ok (.aload_n 0, 1) := by decide +kernel
theorem dX6_board_121 : decode cX6_board 121 = .ok (.getfield 13, 3) := by decide +kernel
theorem dX6_board_124 : decode cX6_board 124 = .ok (.iload_n 1, 1) := by decide +kernel
theorem dX6_board_125 : decode cX6_board 125 = .ok (.iconst 0, 1) := by decide +kernel
theorem dX6_board_126 : decode cX6_board 126 = .ok (.iastore, 1) := by decide +kernel
theorem dX6_board_127 : decode cX6_board 127 = .ok (.iinc 1 1, 3) := by decide +kernel
theorem dX6_board_130 : decode cX6_board 130 = .ok (.goto (-47), 3) := by decide +kernel
theorem dX6_board_133 : decode cX6_board 133 = .ok (.aload_n 0, 1) := by decide +kernel
theorem dX6_board_134 : decode cX6_board 134 = .ok (.iconst 0, 1) := by decide +kernel
theorem dX6_board_135 : decode cX6_board 135 = .ok (.putfield 91, 3) := by decide +kernel
theorem dX6_board_138 : decode cX6_board 138 = .ok (.aload_n 0, 1) := by decide +kernel
theorem dX6_board_139 : decode cX6_board 139 = .ok (.getfield 40, 3) := by decide +kernel
theorem dX6_board_142 : decode cX6_board 142 = .ok (.iconst 0, 1) := by decide +kernel
theorem dX6_board_143 : decode cX6_board 143 = .ok (.iconst 0, 1) := by decide +kernel
theorem dX6_board_144 : decode cX6_board 144 = .ok (.bastore, 1) := by decide +kernel
theorem dX6_board_145 : decode cX6_board 145 = .ok (.aload_n 0, 1) := by decide +kernel
theorem dX6_board_146 : decode cX6_board 146 = .ok (.getfield 40, 3) := by decide +kernel
theorem dX6_board_149 : decode cX6_board 149 = .ok (.iconst 1, 1) := by decide +kernel
theorem dX6_board_150 : decode cX6_board 150 = .ok (.iconst 0, 1) := by decide +kernel
theorem dX6_board_151 : decode cX6_board 151 = .ok (.bastore, 1) := by decide +kernel
theorem dX6_board_152 : decode cX6_board 152 = .ok (.aload_n 0, 1) := by decide +kernel
theorem dX6_board_153 : decode cX6_board 153 = .ok (.getfield 47, 3) := by decide +kernel
theorem dX6_board_156 : decode cX6_board 156 = .ok (.aload_n 0, 1) := by decide +kernel
theorem dX6_board_157 : decode cX6_board 157 = .ok (.getfield 51, 3) := by decide +kernel
theorem dX6_board_160 : decode cX6_board 160 = .ok (.imul, 1) := by decide +kernel
theorem dX6_board_161 : decode cX6_board 161 = .ok (.ireturn, 1) := by decide +kernel
theorem dX6_isCell_0 : decode cX6_isCell 0 = .ok (.iload_n 1, 1) := by decide +kernel
theorem dX6_isCell_1 : decode cX6_isCell 1 = .ok (.i2l, 1) := by decide +kernel
theorem dX6_isCell_2 : decode cX6_isCell 2 = .ok (.lconst 0, 1) := by decide +kernel
theorem dX6_isCell_3 : decode cX6_isCell 3 = .ok (.aload_n 0, 1) := by decide +kernel
theorem dX6_isCell_4 : decode cX6_isCell 4 = .ok (.getfield 47, 3) := by decide +kernel
theorem dX6_isCell_7 : decode cX6_isCell 7 = .ok (.aload_n 0, 1) := by decide +kernel
theorem dX6_isCell_8 : decode cX6_isCell 8 = .ok (.getfield 51, 3) := by decide +kernel
theorem dX6_isCell_11 : decode cX6_isCell 11 = .ok (.imul, 1) := by decide +kernel
theorem dX6_isCell_12 : decode cX6_isCell 12 = .ok (.iconst 1, 1) := by decide +kernel
theorem dX6_isCell_13 : decode cX6_isCell 13 = .ok (.isub, 1) := by decide +kernel
theorem dX6_isCell_14 : decode cX6_isCell 14 = .ok (.i2l, 1) := by decide +kernel
theorem dX6_isCell_15 : decode cX6_isCell 15 = .ok (.invokestatic 56, 3) := by decide +kernel
theorem dX6_isCell_18 : decode cX6_isCell 18 = .ok (.ireturn, 1) := by decide +kernel
theorem dX6_cell_0 : decode cX6_cell 0 = .ok (.aload_n 0, 1) := by decide +kernel
theorem dX6_cell_1 : decode cX6_cell 1 = .ok (.iload_n 1, 1) := by decide +kernel
theorem dX6_cell_2 : decode cX6_cell 2 = .ok (.invokevirtual 94, 3) := by decide +kernel
theorem dX6_cell_5 : decode cX6_cell 5 = .ok (.ifCond .eq 12, 3) := by decide +kernel
theorem dX6_cell_8 : decode cX6_cell 8 = .ok (.aload_n 0, 1) := by decide +kernel
theorem dX6_cell_9 : decode cX6_cell 9 = .ok (.getfield 7, 3) := by decide +kernel
theorem dX6_cell_12 : decode cX6_cell 12 = .ok (.iload_n 1, 1) := by decide +kernel
theorem dX6_cell_13 : decode cX6_cell 13 = .ok (.iaload, 1) := by decide +kernel
theorem dX6_cell_14 : decode cX6_cell 14 = .ok (.goto 4, 3) := by decide +kernel
theorem dX6_cell_17 : decode cX6_cell 17 = .ok (.iconst (-1), 1) := by decide +kernel
theorem dX6_cell_18 : decode cX6_cell 18 = .ok (.ireturn, 1) := by decide +kernel
theorem dX6_gone_0 : decode cX6_gone 0 = .ok (.aload_n 0, 1) := by decide +kernel
theorem dX6_gone_1 : decode cX6_gone 1 = .ok (.iload_n 1, 1) := by decide +kernel
theorem dX6_gone_2 : decode cX6_gone 2 = .ok (.invokevirtual 94, 3) := by decide +kernel
theorem dX6_gone_5 : decode cX6_gone 5 = .ok (.ifCond .ne 5, 3) := by decide +kernel
theorem dX6_gone_8 : decode cX6_gone 8 = .ok (.iconst (-1), 1) := by decide +kernel
theorem dX6_gone_9 : decode cX6_gone 9 = .ok (.ireturn, 1) := by decide +kernel
theorem dX6_gone_10 : decode cX6_gone 10 = .ok (.aload_n 0, 1) := by decide +kernel
theorem dX6_gone_11 : decode cX6_gone 11 = .ok (.getfield 7, 3) := by decide +kernel
theorem dX6_gone_14 : decode cX6_gone 14 = .ok (.iload_n 1, 1) := by decide +kernel
theorem dX6_gone_15 : decode cX6_gone 15 = .ok (.iaload, 1) := by decide +kernel
theorem dX6_gone_16 : decode cX6_gone 16 = .ok (.bipush 35, 2) := by decide +kernel
theorem dX6_gone_18 : decode cX6_gone 18 = .ok (.if_icmp .ne 12, 3) := by decide +kernel
theorem dX6_gone_21 : decode cX6_gone 21 = .ok (.aload_n 0, 1) := by decide +kernel
theorem dX6_gone_22 : decode cX6_gone 22 = .ok (.getfield 13, 3) := by decide +kernel
theorem dX6_gone_25 : decode cX6_gone 25 = .ok (.iload_n 1, 1) := by decide +kernel
theorem dX6_gone_26 : decode cX6_gone 26 = .ok (.iaload, 1) := by decide +kernel
theorem dX6_gone_27 : decode cX6_gone 27 = .ok (.goto 5, 3) := by decide +kernel
theorem dX6_gone_30 : decode cX6_gone 30 = .ok (.bipush (-3), 2) := by decide +kernel
theorem dX6_gone_32 : decode cX6_gone 32 = .ok (.ireturn, 1) := by decide +kernel
theorem dX6_kindOf_0 : decode cX6_kindOf 0 = .ok (.iload_n 0, 1) := by decide +kernel
theorem dX6_kindOf_1 : decode cX6_kindOf 1 = .ok (.invokestatic 65, 3) := by decide +kernel
theorem dX6_kindOf_4 : decode cX6_kindOf 4 = .ok (.iconst 1, 1) := by decide +kernel
theorem dX6_kindOf_5 : decode cX6_kindOf 5 = .ok (.if_icmp .ne 10, 3) := by decide +kernel
theorem dX6_kindOf_8 : decode cX6_kindOf 8 = .ok (.iload_n 0, 1) := by decide +kernel
theorem dX6_kindOf_9 : decode cX6_kindOf 9 = .ok (.bipush 32, 2) := by decide +kernel
theorem dX6_kindOf_11 : decode cX6_kindOf 11 = .ok (.isub, 1) := by decide +kernel
theorem dX6_kindOf_12 : decode cX6_kindOf 12 = .ok (.goto 4, 3) := by decide +kernel
theorem dX6_kindOf_15 : decode cX6_kindOf 15 = .ok (.iload_n 0, 1) := by decide +kernel
theorem dX6_kindOf_16 : decode cX6_kindOf 16 = .ok (.ireturn, 1) := by decide +kernel
theorem dX6_at_0 : decode cX6_at 0 = .ok (.iload_n 1, 1) := by decide +kernel
theorem dX6_at_1 : decode cX6_at 1 = .ok (.aload_n 0, 1) := by decide +kernel
theorem dX6_at_2 : decode cX6_at 2 = .ok (.getfield 47, 3) := by decide +kernel
theorem dX6_at_5 : decode cX6_at 5 = .ok (.irem, 1) := by decide +kernel
theorem dX6_at_6 : decode cX6_at 6 = .ok (.iload_n 2, 1) := by decide +kernel
theorem dX6_at_7 : decode cX6_at 7 = .ok (.iadd, 1) := by decide +kernel
theorem dX6_at_8 : decode cX6_at 8 = .ok (.istore 4, 2) := by decide +kernel
theorem dX6_at_10 : decode cX6_at 10 = .ok (.iload_n 1, 1) := by decide +kernel
theorem dX6_at_11 : decode cX6_at 11 = .ok (.aload_n 0, 1) := by decide +kernel
theorem dX6_at_12 : decode cX6_at 12 = .ok (.getfield 47, 3) := by decide +kernel
theorem dX6_at_15 : decode cX6_at 15 = .ok (.idiv, 1) := by decide +kernel
theorem dX6_at_16 : decode cX6_at 16 = .ok (.iload_n 3, 1) := by decide +kernel
theorem dX6_at_17 : decode cX6_at 17 = .ok (.iadd, 1) := by decide +kernel
theorem dX6_at_18 : decode cX6_at 18 = .ok (.istore 5, 2) := by decide +kernel
theorem dX6_at_20 : decode cX6_at 20 = .ok (.iload 4, 2) := by decide +kernel
theorem dX6_at_22 : decode cX6_at 22 = .ok (.i2l, 1) := by decide +kernel
theorem dX6_at_23 : decode cX6_at 23 = .ok (.lconst 0, 1) := by decide +kernel
theorem dX6_at_24 : decode cX6_at 24 = .ok (.aload_n 0, 1) := by decide +kernel
theorem dX6_at_25 : decode cX6_at 25 = .ok (.getfield 47, 3) := by decide +kernel
theorem dX6_at_28 : decode cX6_at 28 = .ok (.iconst 1, 1) := by decide +kernel
theorem dX6_at_29 : decode cX6_at 29 = .ok (.isub, 1) := by decide +kernel
theorem dX6_at_30 : decode cX6_at 30 = .ok (.i2l, 1) := by decide +kernel
theorem dX6_at_31 : decode cX6_at 31 = .ok (.invokestatic 56, 3) := by decide +kernel
theorem dX6_at_34 : decode cX6_at 34 = .ok (.ifCond .eq 33, 3) := by decide +kernel
theorem dX6_at_37 : decode cX6_at 37 = .ok (.iload 5, 2) := by decide +kernel
theorem dX6_at_39 : decode cX6_at 39 = .ok (.i2l, 1) := by decide +kernel
theorem dX6_at_40 : decode cX6_at 40 = .ok (.lconst 0, 1) := by decide +kernel
theorem dX6_at_41 : decode cX6_at 41 = .ok (.aload_n 0, 1) := by decide +kernel
theorem dX6_at_42 : decode cX6_at 42 = .ok (.getfield 51, 3) := by decide +kernel
theorem dX6_at_45 : decode cX6_at 45 = .ok (.iconst 1, 1) := by decide +kernel
theorem dX6_at_46 : decode cX6_at 46 = .ok (.isub, 1) := by decide +kernel
theorem dX6_at_47 : decode cX6_at 47 = .ok (.i2l, 1) := by decide +kernel
theorem dX6_at_48 : decode cX6_at 48 = .ok (.invokestatic 56, 3) := by decide +kernel
theorem dX6_at_51 : decode cX6_at 51 = .ok (.ifCond .eq 16, 3) := by decide +kernel
theorem dX6_at_54 : decode cX6_at 54 = .ok (.iload 5, 2) := by decide +kernel
theorem dX6_at_56 : decode cX6_at 56 = .ok (.aload_n 0, 1) := by decide +kernel
theorem dX6_at_57 : decode cX6_at 57 = .ok (.getfield 47, 3) := by decide +kernel
theorem dX6_at_60 : decode cX6_at 60 = .ok (.imul, 1) := by decide +kernel
theorem dX6_at_61 : decode cX6_at 61 = .ok (.iload 4, 2) := by decide +kernel
theorem dX6_at_63 : decode cX6_at 63 = .ok (.iadd, 1) := by decide +kernel
theorem dX6_at_64 : decode cX6_at 64 = .ok (.goto 5, 3) := by decide +kernel
theorem dX6_at_67 : decode cX6_at 67 = .ok (.bipush (-9), 2) := by decide +kernel
theorem dX6_at_69 : decode cX6_at 69 = .ok (.ireturn, 1) := by decide +kernel
theorem dX6_isFree_0 : decode cX6_isFree 0 = .ok (.aload_n 0, 1) := by decide +kernel
theorem dX6_isFree_1 : decode cX6_isFree 1 = .ok (.getfield 7, 3) := by decide +kernel
theorem dX6_isFree_4 : decode cX6_isFree 4 = .ok (.bipush 16, 2) := by decide +kernel
theorem dX6_isFree_6 : decode cX6_isFree 6 = .ok (.iload_n 1, 1) := by decide +kernel
theorem dX6_isFree_7 : decode cX6_isFree 7 = .ok (.imul, 1) := by decide +kernel
theorem dX6_isFree_8 : decode cX6_isFree 8 = .ok (.iload_n 2, 1) := by decide +kernel
theorem dX6_isFree_9 : decode cX6_isFree 9 = .ok (.iadd, 1) := by decide +kernel
theorem dX6_isFree_10 : decode cX6_isFree 10 = .ok (.iaload, 1) := by decide +kernel
theorem dX6_isFree_11 : decode cX6_isFree 11 = .ok (.bipush 46, 2) := by decide +kernel
theorem dX6_isFree_13 : decode cX6_isFree 13 = .ok (.if_icmp .eq 23, 3) := by decide +kernel
theorem dX6_isFree_16 : decode cX6_isFree 16 = .ok (.iload_n 3, 1) := by decide +kernel
theorem dX6_isFree_17 : decode cX6_isFree 17 = .ok (.ifCond .eq 23, 3) := by decide +kernel
theorem dX6_isFree_20 : decode cX6_isFree 20 = .ok (.aload_n 0, 1) := by decide +kernel
theorem dX6_isFree_21 : decode cX6_isFree 21 = .ok (.getfield 7, 3) := by decide +kernel
theorem dX6_isFree_24 : decode cX6_isFree 24 = .ok (.bipush 16, 2) := by decide +kernel
theorem dX6_isFree_26 : decode cX6_isFree 26 = .ok (.iload_n 1, 1) := by decide +kernel
theorem dX6_isFree_27 : decode cX6_isFree 27 = .ok (.imul, 1) := by decide +kernel
theorem dX6_isFree_28 : decode cX6_isFree 28 = .ok (.iload_n 2, 1) := by decide +kernel
theorem dX6_isFree_29 : decode cX6_isFree 29 = .ok (.iadd, 1) := by decide +kernel
theorem dX6_isFree_30 : decode cX6_isFree 30 = .ok (.iaload, 1) := by decide +kernel
theorem dX6_isFree_31 : decode cX6_isFree 31 = .ok (.bipush 35, 2) := by decide +kernel
theorem dX6_isFree_33 : decode cX6_isFree 33 = .ok (.if_icmp .eq 7, 3) := by decide +kernel
theorem dX6_isFree_36 : decode cX6_isFree 36 = .ok (.iconst 1, 1) := by decide +kernel
theorem dX6_isFree_37 : decode cX6_isFree 37 = .ok (.goto 4, 3) := by decide +kernel
theorem dX6_isFree_40 : decode cX6_isFree 40 = .ok (.iconst 0, 1) := by decide +kernel
theorem dX6_isFree_41 : decode cX6_isFree 41 = .ok (.ireturn, 1) := by decide +kernel
theorem dX6_line_0 : decode cX6_line 0 = .ok (.iconst 0, 1) := by decide +kernel
theorem dX6_line_1 : decode cX6_line 1 = .ok (.istore 6, 2) := by decide +kernel
theorem dX6_line_3 : decode cX6_line 3 = .ok (.aload_n 0, 1) := by decide +kernel
theorem dX6_line_4 : decode cX6_line 4 = .ok (.iload_n 2, 1) := by decide +kernel
theorem dX6_line_5 : decode cX6_line 5 = .ok (.iload_n 3, 1) := by decide +kernel
theorem dX6_line_6 : decode cX6_line 6 = .ok (.iload 4, 2) := by decide +kernel
theorem dX6_line_8 : decode cX6_line 8 = .ok (.invokevirtual 97, 3) := by decide +kernel
theorem dX6_line_11 : decode cX6_line 11 = .ok (.istore 7, 2) := by decide +kernel
theorem dX6_line_13 : decode cX6_line 13 = .ok (.iconst 1, 1) := by decide +kernel
theorem dX6_line_14 : decode cX6_line 14 = .ok (.istore 8, 2) := by decide +kernel
theorem dX6_line_16 : decode cX6_line 16 = .ok (.iload 7, 2) := by decide +kernel
theorem dX6_line_18 : decode cX6_line 18 = .ok (.bipush (-9), 2) := by decide +kernel
theorem dX6_line_20 : decode cX6_line 20 = .ok (.if_icmp .eq 42, 3) := by decide +kernel
theorem dX6_line_23 : decode cX6_line 23 = .ok (.iload 8, 2) := by decide +kernel
theorem dX6_line_25 : decode cX6_line 25 = .ok (.ifCond .eq 37, 3) := by decide +kernel
theorem dX6_line_28 : decode cX6_line 28 = .ok (.iload 6, 2) := by decide +kernel
theorem dX6_line_30 : decode cX6_line 30 = .ok (.iconst 1, 1) := by decide +kernel
theorem dX6_line_31 : decode cX6_line 31 = .ok (.iload 7, 2) := by decide +kernel
theorem dX6_line_33 : decode cX6_line 33 = .ok (.ishl, 1) := by decide +kernel
theorem dX6_line_34 : decode cX6_line 34 = .ok (.ior, 1) := by decide +kernel
theorem dX6_line_35 : decode cX6_line 35 = .ok (.istore 6, 2) := by decide +kernel
theorem dX6_line_37 : decode cX6_line 37 = .ok (.aload_n 0, 1) := by decide +kernel
theorem dX6_line_38 : decode cX6_line 38 = .ok (.iload_n 1, 1) := by decide +kernel
theorem dX6_line_39 : decode cX6_line 39 = .ok (.iload 7, 2) := by decide +kernel
theorem dX6_line_41 : decode cX6_line 41 = .ok (.iload 5, 2) := by decide +kernel
theorem dX6_line_43 : decode cX6_line 43 = .ok (.invokevirtual 101, 3) := by decide +kernel
theorem dX6_line_46 : decode cX6_line 46 = .ok (.istore 8, 2) := by decide +kernel
theorem dX6_line_48 : decode cX6_line 48 = .ok (.aload_n 0, 1) := by decide +kernel
theorem dX6_line_49 : decode cX6_line 49 = .ok (.iload 7, 2) := by decide +kernel
theorem dX6_line_51 : decode cX6_line 51 = .ok (.iload_n 3, 1) := by decide +kernel
theorem dX6_line_52 : decode cX6_line 52 = .ok (.iload 4, 2) := by decide +kernel
theorem dX6_line_54 : decode cX6_line 54 = .ok (.invokevirtual 97, 3) := by decide +kernel
theorem dX6_line_57 : decode cX6_line 57 = .ok (.istore 7, 2) := by decide +kernel
theorem dX6_line_59 : decode cX6_line 59 = .ok (.goto (-43), 3) := by decide +kernel
theorem dX6_line_62 : decode cX6_line 62 = .ok (.iload 6, 2) := by decide +kernel
theorem dX6_line_64 : decode cX6_line 64 = .ok (.ireturn, 1) := by decide +kernel
theorem dX6_step_0 : decode cX6_step 0 = .ok (.aload_n 0, 1) := by decide +kernel
theorem dX6_step_1 : decode cX6_step 1 = .ok (.iload_n 1, 1) := by decide +kernel
theorem dX6_step_2 : decode cX6_step 2 = .ok (.iload_n 2, 1) := by decide +kernel
theorem dX6_step_3 : decode cX6_step 3 = .ok (.iload_n 3, 1) := by decide +kernel
theorem dX6_step_4 : decode cX6_step 4 = .ok (.invokevirtual 97, 3) := by decide +kernel
theorem dX6_step_7 : decode cX6_step 7 = .ok (.istore 4, 2) := by decide +kernel
theorem dX6_step_9 : decode cX6_step 9 = .ok (.iload 4, 2) := by decide +kernel
theorem dX6_step_11 : decode cX6_step 11 = .ok (.bipush (-9), 2) := by decide +kernel
theorem dX6_step_13 : decode cX6_step 13 = .ok (.if_icmp .ne 7, 3) := by decide +kernel
theorem dX6_step_16 : decode cX6_step 16 = .ok (.iconst 0, 1) := by decide +kernel
theorem dX6_step_17 : decode cX6_step 17 = .ok (.goto 7, 3) := by decide +kernel
theorem dX6_step_20 : decode cX6_step 20 = .ok (.iconst 1, 1) := by decide +kernel
theorem dX6_step_21 : decode cX6_step 21 = .ok (.iload 4, 2) := by decide +kernel
theorem dX6_step_23 : decode cX6_step 23 = .ok (.ishl, 1) := by decide +kernel
theorem dX6_step_24 : decode cX6_step 24 = .ok (.ireturn, 1) := by decide +kernel
theorem dX6_aimsOf_0 : decode cX6_aimsOf 0 = .ok (.iload_n 2, 1) := by decide +kernel
theorem dX6_aimsOf_1 : decode cX6_aimsOf 1 = .ok (.invokestatic 105, 3) := by decide +kernel
theorem dX6_aimsOf_4 : decode cX6_aimsOf 4 = .ok (.istore 5, 2) := by decide +kernel
theorem dX6_aimsOf_6 : decode cX6_aimsOf 6 = .ok (.iconst 0, 1) := by decide +kernel
theorem dX6_aimsOf_7 : decode cX6_aimsOf 7 = .ok (.istore 6, 2) := by decide +kernel
theorem dX6_aimsOf_9 : decode cX6_aimsOf 9 = .ok (.iconst 0, 1) := by decide +kernel
theorem dX6_aimsOf_10 : decode cX6_aimsOf 10 = .ok (.istore 7, 2) := by decide +kernel
theorem dX6_aimsOf_12 : decode cX6_aimsOf 12 = .ok (.iload 7, 2) := by decide +kernel
theorem dX6_aimsOf_14 : decode cX6_aimsOf 14 = .ok (.bipush 9, 2) := by decide +kernel
theorem dX6_aimsOf_16 : decode cX6_aimsOf 16 = .ok (.if_icmp .ge 215, 3) := by decide +kernel
theorem dX6_aimsOf_19 : decode cX6_aimsOf 19 = .ok (.iload 7, 2) := by decide +kernel
theorem dX6_aimsOf_21 : decode cX6_aimsOf 21 = .ok (.iconst 3, 1) := by decide +kernel
theorem dX6_aimsOf_22 : decode cX6_aimsOf 22 = .ok (.irem, 1) := by decide +kernel
theorem dX6_aimsOf_23 : decode cX6_aimsOf 23 = .ok (.iconst 1, 1) := by decide +kernel
theorem dX6_aimsOf_24 : decode cX6_aimsOf 24 = .ok (.isub, 1) := by decide +kernel
theorem dX6_aimsOf_25 : decode cX6_aimsOf 25 = .ok (.istore 8, 2) := by decide +kernel
theorem dX6_aimsOf_27 : decode cX6_aimsOf 27 = .ok (.iload 7, 2) := by decide +kernel
theorem dX6_aimsOf_29 : decode cX6_aimsOf 29 = .ok (.iconst 3, 1) := by decide +kernel
theorem dX6_aimsOf_30 : decode cX6_aimsOf 30 = .ok (.idiv, 1) := by decide +kernel
theorem dX6_aimsOf_31 : decode cX6_aimsOf 31 = .ok (.iconst 1, 1) := by decide +kernel
theorem dX6_aimsOf_32 : decode cX6_aimsOf 32 = .ok (.isub, 1) := by decide +kernel
theorem dX6_aimsOf_33 : decode cX6_aimsOf 33 = .ok (.istore 9, 2) := by decide +kernel
theorem dX6_aimsOf_35 : decode cX6_aimsOf 35 = .ok (.iload 8, 2) := by decide +kernel
theorem dX6_aimsOf_37 : decode cX6_aimsOf 37 = .ok (.ifCond .eq 8, 3) := by decide +kernel
theorem dX6_aimsOf_40 : decode cX6_aimsOf 40 = .ok (.iload 9, 2) := by decide +kernel
theorem dX6_aimsOf_42 : decode cX6_aimsOf 42 = .ok (.ifCond .ne 7, 3) := by decide +kernel
theorem dX6_aimsOf_45 : decode cX6_aimsOf 45 = .ok (.iconst 1, 1) := by decide +kernel
theorem dX6_aimsOf_46 : decode cX6_aimsOf 46 = .ok (.goto 4, 3) := by decide +kernel
theorem dX6_aimsOf_49 : decode cX6_aimsOf 49 = .ok (.iconst 0, 1) := by decide +kernel
theorem dX6_aimsOf_50 : decode cX6_aimsOf 50 = .ok (.istore 10, 2) := by decide +kernel
theorem dX6_aimsOf_52 : decode cX6_aimsOf 52 = .ok (.iload 7, 2) := by decide +kernel
theorem dX6_aimsOf_54 : decode cX6_aimsOf 54 = .ok (.iconst 4, 1) := by decide +kernel
theorem dX6_aimsOf_55 : decode cX6_aimsOf 55 = .ok (.if_icmp .ne 12, 3) := by decide +kernel
theorem dX6_aimsOf_58 : decode cX6_aimsOf 58 = .ok (.iload 6, 2) := by decide +kernel
theorem dX6_aimsOf_60 : decode cX6_aimsOf 60 = .ok (.iconst 0, 1) := by decide +kernel
theorem dX6_aimsOf_61 : decode cX6_aimsOf 61 = .ok (.ior, 1) := by decide +kernel
theorem dX6_aimsOf_62 : decode cX6_aimsOf 62 = .ok (.istore 6, 2) := by decide +kernel
theorem dX6_aimsOf_64 : decode cX6_aimsOf 64 = .ok (.goto 161, 3) := by decide +kernel
theorem dX6_aimsOf_67 : decode cX6_aimsOf 67 = .ok (.iload 5, 2) := by decide +kernel
theorem dX6_aimsOf_69 : decode cX6_aimsOf 69 = .ok (.bipush 75, 2) := by decide +kernel
theorem dX6_aimsOf_71 : decode cX6_aimsOf 71 = .ok (.if_icmp .ne 20, 3) := by decide +kernel
theorem dX6_aimsOf_74 : decode cX6_aimsOf 74 = .ok (.iload 6, 2) := by decide +kernel
theorem dX6_aimsOf_76 : decode cX6_aimsOf 76 = .ok (.aload_n 0, 1) := by decide +kernel
theorem dX6_aimsOf_77 : decode cX6_aimsOf 77 = .ok (.iload_n 3, 1) := by decide +kernel
theorem dX6_aimsOf_78 : decode cX6_aimsOf 78 = .ok (.iload 8, 2) := by decide +kernel
theorem dX6_aimsOf_80 : decode cX6_aimsOf 80 = .ok (.iload 9, 2) := by decide +kernel
theorem dX6_aimsOf_82 : decode cX6_aimsOf 82 = .ok (.invokevirtual 108, 3) := by decide +kernel
theorem dX6_aimsOf_85 : decode cX6_aimsOf 85 = .ok (.ior, 1) := by decide +kernel
theorem dX6_aimsOf_86 : decode cX6_aimsOf 86 = .ok (.istore 6, 2) := by decide +kernel
theorem dX6_aimsOf_88 : decode cX6_aimsOf 88 = .ok (.goto 137, 3) := by decide +kernel
theorem dX6_aimsOf_91 : decode cX6_aimsOf 91 = .ok (.iload 5, 2) := by decide +kernel
theorem dX6_aimsOf_93 : decode cX6_aimsOf 93 = .ok (.bipush 82, 2) := by decide +kernel
theorem dX6_aimsOf_95 : decode cX6_aimsOf 95 = .ok (.if_icmp .ne 8, 3) := by decide +kernel
theorem dX6_aimsOf_98 : decode cX6_aimsOf 98 = .ok (.iload 10, 2) := by decide +kernel
theorem dX6_aimsOf_100 : decode cX6_aimsOf 100 = .ok (.ifCond .ne 15, 3) := by decide +kernel
theorem dX6_aimsOf_103 : decode cX6_aimsOf 103 = .ok (.iload 5, 2) := by decide +kernel
theorem dX6_aimsOf_105 : decode cX6_aimsOf 105 = .ok (.bipush 66, 2) := by decide +kernel
theorem dX6_aimsOf_107 : decode cX6_aimsOf 107 = .ok (.if_icmp .ne 28, 3) := by decide +kernel
theorem dX6_aimsOf_110 : decode cX6_aimsOf 110 = .ok (.iload 10, 2) := by decide +kernel
theorem dX6_aimsOf_112 : decode cX6_aimsOf 112 = .ok (.ifCond .ne 23, 3) := by decide +kernel
theorem dX6_aimsOf_115 : decode cX6_aimsOf 115 = .ok (.iload 6, 2) := by decide +kernel
theorem dX6_aimsOf_117 : decode cX6_aimsOf 117 = .ok (.aload_n 0, 1) := by decide +kernel
theorem dX6_aimsOf_118 : decode cX6_aimsOf 118 = .ok (.iload_n 1, 1) := by decide +kernel
theorem dX6_aimsOf_119 : decode cX6_aimsOf 119 = .ok (.iload_n 3, 1) := by decide +kernel
theorem dX6_aimsOf_120 : decode cX6_aimsOf 120 = .ok (.iload 8, 2) := by decide +kernel
theorem dX6_aimsOf_122 : decode cX6_aimsOf 122 = .ok (.iload 9, 2) := by decide +kernel
theorem dX6_aimsOf_124 : decode cX6_aimsOf 124 = .ok (.iload 4, 2) := by decide +kernel
theorem dX6_aimsOf_126 : decode cX6_aimsOf 126 = .ok (.invokevirtual 111, 3) := by decide +kernel
theorem dX6_aimsOf_129 : decode cX6_aimsOf 129 = .ok (.ior, 1) := by decide +kernel
theorem dX6_aimsOf_130 : decode cX6_aimsOf 130 = .ok (.istore 6, 2) := by decide +kernel
theorem dX6_aimsOf_132 : decode cX6_aimsOf 132 = .ok (.goto 93, 3) := by decide +kernel
theorem dX6_aimsOf_135 : decode cX6_aimsOf 135 = .ok (.iload 5, 2) := by decide +kernel
theorem dX6_aimsOf_137 : decode cX6_aimsOf 137 = .ok (.bipush 78, 2) := by decide +kernel
theorem dX6_aimsOf_139 : decode cX6_aimsOf 139 = .ok (.if_icmp .ne 39, 3) := by decide +kernel
theorem dX6_aimsOf_142 : decode cX6_aimsOf 142 = .ok (.iload 10, 2) := by decide +kernel
theorem dX6_aimsOf_144 : decode cX6_aimsOf 144 = .ok (.ifCond .ne 34, 3) := by decide +kernel
theorem dX6_aimsOf_147 : decode cX6_aimsOf 147 = .ok (.iload 6, 2) := by decide +kernel
theorem dX6_aimsOf_149 : decode cX6_aimsOf 149 = .ok (.aload_n 0, 1) := by decide +kernel
theorem dX6_aimsOf_150 : decode cX6_aimsOf 150 = .ok (.iload_n 3, 1) := by decide +kernel
theorem dX6_aimsOf_151 : decode cX6_aimsOf 151 = .ok (.iconst 2, 1) := by decide +kernel
theorem dX6_aimsOf_152 : decode cX6_aimsOf 152 = .ok (.iload 8, 2) := by decide +kernel
theorem dX6_aimsOf_154 : decode cX6_aimsOf 154 = .ok (.imul, 1) := by decide +kernel
theorem dX6_aimsOf_155 : decode cX6_aimsOf 155 = .ok (.iload 9, 2) := by decide +kernel
theorem dX6_aimsOf_157 : decode cX6_aimsOf 157 = .ok (.invokevirtual 108, 3) := by decide +kernel
theorem dX6_aimsOf_160 : decode cX6_aimsOf 160 = .ok (.aload_n 0, 1) := by decide +kernel
theorem dX6_aimsOf_161 : decode cX6_aimsOf 161 = .ok (.iload_n 3, 1) := by decide +kernel
theorem dX6_aimsOf_162 : decode cX6_aimsOf 162 = .ok (.iload 8, 2) := by decide +kernel
theorem dX6_aimsOf_164 : decode cX6_aimsOf 164 = .ok (.iconst 2, 1) := by decide +kernel
theorem dX6_aimsOf_165 : decode cX6_aimsOf 165 = .ok (.iload 9, 2) := by decide +kernel
theorem dX6_aimsOf_167 : decode cX6_aimsOf 167 = .ok (.imul, 1) := by decide +kernel
theorem dX6_aimsOf_168 : decode cX6_aimsOf 168 = .ok (.invokevirtual 108, 3) := by decide +kernel
theorem dX6_aimsOf_171 : decode cX6_aimsOf 171 = .ok (.ior, 1) := by decide +kernel
theorem dX6_aimsOf_172 : decode cX6_aimsOf 172 = .ok (.ior, 1) := by decide +kernel
theorem dX6_aimsOf_173 : decode cX6_aimsOf 173 = .ok (.istore 6, 2) := by decide +kernel
theorem dX6_aimsOf_175 : decode cX6_aimsOf 175 = .ok (.goto 50, 3) := by decide +kernel
theorem dX6_aimsOf_178 : decode cX6_aimsOf 178 = .ok (.iload 5, 2) := by decide +kernel
theorem dX6_aimsOf_180 : decode cX6_aimsOf 180 = .ok (.bipush 80, 2) := by decide +kernel
theorem dX6_aimsOf_182 : decode cX6_aimsOf 182 = .ok (.if_icmp .ne 43, 3) := by decide +kernel
theorem dX6_aimsOf_185 : decode cX6_aimsOf 185 = .ok (.iload 10, 2) := by decide +kernel
theorem dX6_aimsOf_187 : decode cX6_aimsOf 187 = .ok (.ifCond .ne 38, 3) := by decide +kernel
theorem dX6_aimsOf_190 : decode cX6_aimsOf 190 = .ok (.iload 6, 2) := by decide +kernel
theorem dX6_aimsOf_192 : decode cX6_aimsOf 192 = .ok (.iload 9, 2) := by decide +kernel
theorem dX6_aimsOf_194 : decode cX6_aimsOf 194 = .ok (.iload_n 2, 1) := by decide +kernel
theorem dX6_aimsOf_195 : decode cX6_aimsOf 195 = .ok (.invokestatic 65, 3) := by decide +kernel
theorem dX6_aimsOf_198 : decode cX6_aimsOf 198 = .ok (.ifCond .ne 7, 3) := by decide +kernel
theorem dX6_aimsOf_201 : decode cX6_aimsOf 201 = .ok (.iconst (-1), 1) := by decide +kernel
theorem dX6_aimsOf_202 : decode cX6_aimsOf 202 = .ok (.goto 4, 3) := by decide +kernel
theorem dX6_aimsOf_205 : decode cX6_aimsOf 205 = .ok (.iconst 1, 1) := by decide +kernel
theorem dX6_aimsOf_206 : decode cX6_aimsOf 206 = .ok (.if_icmp .ne 15, 3) := by decide +kernel
theorem dX6_aimsOf_209 : decode cX6_aimsOf 209 = .ok (.aload_n 0, 1) := by decide +kernel
theorem dX6_aimsOf_210 : decode cX6_aimsOf 210 = .ok (.iload_n 3, 1) := by decide +kernel
theorem dX6_aimsOf_211 : decode cX6_aimsOf 211 = .ok (.iload 8, 2) := by decide +kernel
theorem dX6_aimsOf_213 : decode cX6_aimsOf 213 = .ok (.iload 9, 2) := by decide +kernel
theorem dX6_aimsOf_215 : decode cX6_aimsOf 215 = .ok (.invokevirtual 108, 3) := by decide +kernel
theorem dX6_aimsOf_218 : decode cX6_aimsOf 218 = .ok (.goto 4, 3) := by decide +kernel
theorem dX6_aimsOf_221 : decode cX6_aimsOf 221 = .ok (.iconst 0, 1) := by decide +kernel
theorem dX6_aimsOf_222 : decode cX6_aimsOf 222 = .ok (.ior, 1) := by decide +kernel
theorem dX6_aimsOf_223 : decode cX6_aimsOf 223 = .ok (.istore 6, 2) := by decide +kernel
theorem dX6_aimsOf_225 : decode cX6_aimsOf 225 = .ok (.iinc 7 1, 3) := by decide +kernel
theorem dX6_aimsOf_228 : decode cX6_aimsOf 228 = .ok (.goto (-216), 3) := by decide +kernel
theorem dX6_aimsOf_231 : decode cX6_aimsOf 231 = .ok (.iload 6, 2) := by decide +kernel
theorem dX6_aimsOf_233 : decode cX6_aimsOf 233 = .ok (.ireturn, 1) := by decide +kernel
theorem dX6_aims_0 : decode cX6_aims 0 = .ok (.aload_n 0, 1) := by decide +kernel
theorem dX6_aims_1 : decode cX6_aims 1 = .ok (.iload_n 1, 1) := by decide +kernel
theorem dX6_aims_2 : decode cX6_aims 2 = .ok (.invokevirtual 94, 3) := by decide +kernel
theorem dX6_aims_5 : decode cX6_aims 5 = .ok (.ifCond .ne 5, 3) := by decide +kernel
theorem dX6_aims_8 : decode cX6_aims 8 = .ok (.iconst (-1), 1) := by decide +kernel
theorem dX6_aims_9 : decode cX6_aims 9 = .ok (.ireturn, 1) := by decide +kernel
theorem dX6_aims_10 : decode cX6_aims 10 = .ok (.aload_n 0, 1) := by decide +kernel
theorem dX6_aims_11 : decode cX6_aims 11 = .ok (.getfield 7, 3) := by decide +kernel
theorem dX6_aims_14 : decode cX6_aims 14 = .ok (.iload_n 1, 1) := by decide +kernel
theorem dX6_aims_15 : decode cX6_aims 15 = .ok (.iaload, 1) := by decide +kernel
theorem dX6_aims_16 : decode cX6_aims 16 = .ok (.invokestatic 65, 3) := by decide +kernel
theorem dX6_aims_19 : decode cX6_aims 19 = .ok (.bipush (-9), 2) := by decide +kernel
theorem dX6_aims_21 : decode cX6_aims 21 = .ok (.if_icmp .ne 7, 3) := by decide +kernel
theorem dX6_aims_24 : decode cX6_aims 24 = .ok (.iconst 0, 1) := by decide +kernel
theorem dX6_aims_25 : decode cX6_aims 25 = .ok (.goto 16, 3) := by decide +kernel
theorem dX6_aims_28 : decode cX6_aims 28 = .ok (.aload_n 0, 1) := by decide +kernel
theorem dX6_aims_29 : decode cX6_aims 29 = .ok (.iconst 0, 1) := by decide +kernel
theorem dX6_aims_30 : decode cX6_aims 30 = .ok (.aload_n 0, 1) := by decide +kernel
theorem dX6_aims_31 : decode cX6_aims 31 = .ok (.getfield 7, 3) := by decide +kernel
theorem dX6_aims_34 : decode cX6_aims 34 = .ok (.iload_n 1, 1) := by decide +kernel
theorem dX6_aims_35 : decode cX6_aims 35 = .ok (.iaload, 1) := by decide +kernel
theorem dX6_aims_36 : decode cX6_aims 36 = .ok (.iload_n 1, 1) := by decide +kernel
theorem dX6_aims_37 : decode cX6_aims 37 = .ok (.iconst 0, 1) := by decide +kernel
theorem dX6_aims_38 : decode cX6_aims 38 = .ok (.invokevirtual 115, 3) := by decide +kernel
theorem dX6_aims_41 : decode cX6_aims 41 = .ok (.ireturn, 1) := by decide +kernel
theorem dX6_going_0 : decode cX6_going 0 = .ok (.iload_n 2, 1) := by decide +kernel
theorem dX6_going_1 : decode cX6_going 1 = .ok (.invokestatic 105, 3) := by decide +kernel
theorem dX6_going_4 : decode cX6_going 4 = .ok (.bipush 80, 2) := by decide +kernel
theorem dX6_going_6 : decode cX6_going 6 = .ok (.if_icmp .ne 24, 3) := by decide +kernel
theorem dX6_going_9 : decode cX6_going 9 = .ok (.aload_n 0, 1) := by decide +kernel
theorem dX6_going_10 : decode cX6_going 10 = .ok (.iload_n 3, 1) := by decide +kernel
theorem dX6_going_11 : decode cX6_going 11 = .ok (.iconst 0, 1) := by decide +kernel
theorem dX6_going_12 : decode cX6_going 12 = .ok (.iload_n 2, 1) := by decide +kernel
theorem dX6_going_13 : decode cX6_going 13 = .ok (.invokestatic 65, 3) := by decide +kernel
theorem dX6_going_16 : decode cX6_going 16 = .ok (.ifCond .ne 7, 3) := by decide +kernel
theorem dX6_going_19 : decode cX6_going 19 = .ok (.iconst (-1), 1) := by decide +kernel
theorem dX6_going_20 : decode cX6_going 20 = .ok (.goto 4, 3) := by decide +kernel
theorem dX6_going_23 : decode cX6_going 23 = .ok (.iconst 1, 1) := by decide +kernel
theorem dX6_going_24 : decode cX6_going 24 = .ok (.invokevirtual 108, 3) := by decide +kernel
theorem dX6_going_27 : decode cX6_going 27 = .ok (.goto 12, 3) := by decide +kernel
theorem dX6_going_30 : decode cX6_going 30 = .ok (.aload_n 0, 1) := by decide +kernel
theorem dX6_going_31 : decode cX6_going 31 = .ok (.iload_n 1, 1) := by decide +kernel
theorem dX6_going_32 : decode cX6_going 32 = .ok (.iload_n 2, 1) := by decide +kernel
theorem dX6_going_33 : decode cX6_going 33 = .ok (.iload_n 3, 1) := by decide +kernel
theorem dX6_going_34 : decode cX6_going 34 = .ok (.iload 4, 2) := by decide +kernel
theorem dX6_going_36 : decode cX6_going 36 = .ok (.invokevirtual 115, 3) := by decide +kernel
theorem dX6_going_39 : decode cX6_going 39 = .ok (.istore 5, 2) := by decide +kernel
theorem dX6_going_41 : decode cX6_going 41 = .ok (.iconst 0, 1) := by decide +kernel
theorem dX6_going_42 : decode cX6_going 42 = .ok (.istore 6, 2) := by decide +kernel
theorem dX6_going_44 : decode cX6_going 44 = .ok (.iconst 0, 1) := by decide +kernel
theorem dX6_going_45 : decode cX6_going 45 = .ok (.istore 7, 2) := by decide +kernel
theorem dX6_going_47 : decode cX6_going 47 = .ok (.iload 7, 2) := by decide +kernel
theorem dX6_going_49 : decode cX6_going 49 = .ok (.aload_n 0, 1) := by decide +kernel
theorem dX6_going_50 : decode cX6_going 50 = .ok (.getfield 47, 3) := by decide +kernel
theorem dX6_going_53 : decode cX6_going 53 = .ok (.aload_n 0, 1) := by decide +kernel
theorem dX6_going_54 : decode cX6_going 54 = .ok (.getfield 51, 3) := by decide +kernel
theorem dX6_going_57 : decode cX6_going 57 = .ok (.imul, 1) := by decide +kernel
theorem dX6_going_58 : decode cX6_going 58 = .ok (.if_icmp .ge 34, 3) := by decide +kernel
theorem dX6_going_61 : decode cX6_going 61 = .ok (.iload 6, 2) := by decide +kernel
theorem dX6_going_63 : decode cX6_going 63 = .ok (.aload_n 0, 1) := by decide +kernel
theorem dX6_going_64 : decode cX6_going 64 = .ok (.iload_n 1, 1) := by decide +kernel
theorem dX6_going_65 : decode cX6_going 65 = .ok (.iload 7, 2) := by decide +kernel
theorem dX6_going_67 : decode cX6_going 67 = .ok (.iload 4, 2) := by decide +kernel
theorem dX6_going_69 : decode cX6_going 69 = .ok (.invokevirtual 101, 3) := by decide +kernel
theorem dX6_going_72 : decode cX6_going 72 = .ok (.ifCond .eq 10, 3) := by decide +kernel
theorem dX6_going_75 : decode cX6_going 75 = .ok (.iconst 1, 1) := by decide +kernel
theorem dX6_going_76 : decode cX6_going 76 = .ok (.iload 7, 2) := by decide +kernel
theorem dX6_going_78 : decode cX6_going 78 = .ok (.ishl, 1) := by decide +kernel
theorem dX6_going_79 : decode cX6_going 79 = .ok (.goto 4, 3) := by decide +kernel
theorem dX6_going_82 : decode cX6_going 82 = .ok (.iconst 0, 1) := by decide +kernel
theorem dX6_going_83 : decode cX6_going 83 = .ok (.ior, 1) := by decide +kernel
theorem dX6_going_84 : decode cX6_going 84 = .ok (.istore 6, 2) := by decide +kernel
theorem dX6_going_86 : decode cX6_going 86 = .ok (.iinc 7 1, 3) := by decide +kernel
theorem dX6_going_89 : decode cX6_going 89 = .ok (.goto (-42), 3) := by decide +kernel
theorem dX6_going_92 : decode cX6_going 92 = .ok (.iload 5, 2) := by decide +kernel
theorem dX6_going_94 : decode cX6_going 94 = .ok (.iload 6, 2) := by decide +kernel
theorem dX6_going_96 : decode cX6_going 96 = .ok (.iand, 1) := by decide +kernel
theorem dX6_going_97 : decode cX6_going 97 = .ok (.ireturn, 1) := by decide +kernel
theorem dX6_canOf_0 : decode cX6_canOf 0 = .ok (.aload_n 0, 1) := by decide +kernel
theorem dX6_canOf_1 : decode cX6_canOf 1 = .ok (.getfield 7, 3) := by decide +kernel
theorem dX6_canOf_4 : decode cX6_canOf 4 = .ok (.bipush 16, 2) := by decide +kernel
theorem dX6_canOf_6 : decode cX6_canOf 6 = .ok (.iload_n 1, 1) := by decide +kernel
theorem dX6_canOf_7 : decode cX6_canOf 7 = .ok (.imul, 1) := by decide +kernel
theorem dX6_canOf_8 : decode cX6_canOf 8 = .ok (.iload_n 2, 1) := by decide +kernel
theorem dX6_canOf_9 : decode cX6_canOf 9 = .ok (.iadd, 1) := by decide +kernel
theorem dX6_canOf_10 : decode cX6_canOf 10 = .ok (.iaload, 1) := by decide +kernel
theorem dX6_canOf_11 : decode cX6_canOf 11 = .ok (.istore_n 3, 1) := by decide +kernel
theorem dX6_canOf_12 : decode cX6_canOf 12 = .ok (.iload_n 3, 1) := by decide +kernel
theorem dX6_canOf_13 : decode cX6_canOf 13 = .ok (.invokestatic 65, 3) := by decide +kernel
theorem dX6_canOf_16 : decode cX6_canOf 16 = .ok (.istore 4, 2) := by decide +kernel
theorem dX6_canOf_18 : decode cX6_canOf 18 = .ok (.iload 4, 2) := by decide +kernel
theorem dX6_canOf_20 : decode cX6_canOf 20 = .ok (.bipush (-9), 2) := by decide +kernel
theorem dX6_canOf_22 : decode cX6_canOf 22 = .ok (.if_icmp .ne 5, 3) := by decide +kernel
theorem dX6_canOf_25 : decode cX6_canOf 25 = .ok (.iconst 0, 1) := by decide +kernel
theorem dX6_canOf_26 : decode cX6_canOf 26 = .ok (.ireturn, 1) := by decide +kernel
theorem dX6_canOf_27 : decode cX6_canOf 27 = .ok (.iconst 0, 1) := by decide +kernel
theorem dX6_canOf_28 : decode cX6_canOf 28 = .ok (.istore 5, 2) := by decide +kernel
theorem dX6_canOf_30 : decode cX6_canOf 30 = .ok (.iconst 0, 1) := by decide +kernel
theorem dX6_canOf_31 : decode cX6_canOf 31 = .ok (.istore 6, 2) := by decide +kernel
theorem dX6_canOf_33 : decode cX6_canOf 33 = .ok (.iload 6, 2) := by decide +kernel
theorem dX6_canOf_35 : decode cX6_canOf 35 = .ok (.aload_n 0, 1) := by decide +kernel
theorem dX6_canOf_36 : decode cX6_canOf 36 = .ok (.getfield 47, 3) := by decide +kernel
theorem dX6_canOf_39 : decode cX6_canOf 39 = .ok (.aload_n 0, 1) := by decide +kernel
theorem dX6_canOf_40 : decode cX6_canOf 40 = .ok (.getfield 51, 3) := by decide +kernel
theorem dX6_canOf_43 : decode cX6_canOf 43 = .ok (.imul, 1) := by decide +kernel
theorem dX6_canOf_44 : decode cX6_canOf 44 = .ok (.if_icmp .ge 44, 3) := by decide +kernel
theorem dX6_canOf_47 : decode cX6_canOf 47 = .ok (.iload 5, 2) := by decide +kernel
theorem dX6_canOf_49 : decode cX6_canOf 49 = .ok (.aload_n 0, 1) := by decide +kernel
theorem dX6_canOf_50 : decode cX6_canOf 50 = .ok (.getfield 7, 3) := by decide +kernel
theorem dX6_canOf_53 : decode cX6_canOf 53 = .ok (.bipush 16, 2) := by decide +kernel
theorem dX6_canOf_55 : decode cX6_canOf 55 = .ok (.iload_n 1, 1) := by decide +kernel
theorem dX6_canOf_56 : decode cX6_canOf 56 = .ok (.imul, 1) := by decide +kernel
theorem dX6_canOf_57 : decode cX6_canOf 57 = .ok (.iload 6, 2) := by decide +kernel
theorem dX6_canOf_59 : decode cX6_canOf 59 = .ok (.iadd, 1) := by decide +kernel
theorem dX6_canOf_60 : decode cX6_canOf 60 = .ok (.iaload, 1) := by decide +kernel
theorem dX6_canOf_61 : decode cX6_canOf 61 = .ok (.invokestatic 65, 3) := by decide +kernel
theorem dX6_canOf_64 : decode cX6_canOf 64 = .ok (.iconst 1, 1) := by decide +kernel
theorem dX6_canOf_65 : decode cX6_canOf 65 = .ok (.iload 4, 2) := by decide +kernel
theorem dX6_canOf_67 : decode cX6_canOf 67 = .ok (.isub, 1) := by decide +kernel
theorem dX6_canOf_68 : decode cX6_canOf 68 = .ok (.if_icmp .ne 10, 3) := by decide +kernel
theorem dX6_canOf_71 : decode cX6_canOf 71 = .ok (.iconst 1, 1) := by decide +kernel
theorem dX6_canOf_72 : decode cX6_canOf 72 = .ok (.iload 6, 2) := by decide +kernel
theorem dX6_canOf_74 : decode cX6_canOf 74 = .ok (.ishl, 1) := by decide +kernel
theorem dX6_canOf_75 : decode cX6_canOf 75 = .ok (.goto 4, 3) := by decide +kernel
theorem dX6_canOf_78 : decode cX6_canOf 78 = .ok (.iconst 0, 1) := by decide +kernel
theorem dX6_canOf_79 : decode cX6_canOf 79 = .ok (.ior, 1) := by decide +kernel
theorem dX6_canOf_80 : decode cX6_canOf 80 = .ok (.istore 5, 2) := by decide +kernel
theorem dX6_canOf_82 : decode cX6_canOf 82 = .ok (.iinc 6 1, 3) := by decide +kernel
theorem dX6_canOf_85 : decode cX6_canOf 85 = .ok (.goto (-52), 3) := by decide +kernel
theorem dX6_canOf_88 : decode cX6_canOf 88 = .ok (.aload_n 0, 1) := by decide +kernel
theorem dX6_canOf_89 : decode cX6_canOf 89 = .ok (.iload_n 1, 1) := by decide +kernel
theorem dX6_canOf_90 : decode cX6_canOf 90 = .ok (.iload_n 3, 1) := by decide +kernel
theorem dX6_canOf_91 : decode cX6_canOf 91 = .ok (.iload_n 2, 1) := by decide +kernel
theorem dX6_canOf_92 : decode cX6_canOf 92 = .ok (.iconst 0, 1) := by decide +kernel
theorem dX6_canOf_93 : decode cX6_canOf 93 = .ok (.invokevirtual 119, 3) := by decide +kernel
theorem dX6_canOf_96 : decode cX6_canOf 96 = .ok (.aload_n 0, 1) := by decide +kernel
theorem dX6_canOf_97 : decode cX6_canOf 97 = .ok (.iload_n 1, 1) := by decide +kernel
theorem dX6_canOf_98 : decode cX6_canOf 98 = .ok (.iload_n 3, 1) := by decide +kernel
theorem dX6_canOf_99 : decode cX6_canOf 99 = .ok (.iload_n 2, 1) := by decide +kernel
theorem dX6_canOf_100 : decode cX6_canOf 100 = .ok (.iconst 0, 1) := by decide +kernel
theorem dX6_canOf_101 : decode cX6_canOf 101 = .ok (.invokevirtual 115, 3) := by decide +kernel
theorem dX6_canOf_104 : decode cX6_canOf 104 = .ok (.iload 5, 2) := by decide +kernel
theorem dX6_canOf_106 : decode cX6_canOf 106 = .ok (.iand, 1) := by decide +kernel
theorem dX6_canOf_107 : decode cX6_canOf 107 = .ok (.ior, 1) := by decide +kernel
theorem dX6_canOf_108 : decode cX6_canOf 108 = .ok (.ireturn, 1) := by decide +kernel
theorem dX6_can_0 : decode cX6_can 0 = .ok (.aload_n 0, 1) := by decide +kernel
theorem dX6_can_1 : decode cX6_can 1 = .ok (.iload_n 1, 1) := by decide +kernel
theorem dX6_can_2 : decode cX6_can 2 = .ok (.invokevirtual 94, 3) := by decide +kernel
theorem dX6_can_5 : decode cX6_can 5 = .ok (.ifCond .eq 12, 3) := by decide +kernel
theorem dX6_can_8 : decode cX6_can 8 = .ok (.aload_n 0, 1) := by decide +kernel
theorem dX6_can_9 : decode cX6_can 9 = .ok (.iconst 0, 1) := by decide +kernel
theorem dX6_can_10 : decode cX6_can 10 = .ok (.iload_n 1, 1) := by decide +kernel
theorem dX6_can_11 : decode cX6_can 11 = .ok (.invokevirtual 122, 3) := by decide +kernel
theorem dX6_can_14 : decode cX6_can 14 = .ok (.goto 4, 3) := by decide +kernel
theorem dX6_can_17 : decode cX6_can 17 = .ok (.iconst (-1), 1) := by decide +kernel
theorem dX6_can_18 : decode cX6_can 18 = .ok (.ireturn, 1) := by decide +kernel
theorem dX6_list_0 : decode cX6_list 0 = .ok (.iconst 0, 1) := by decide +kernel
theorem dX6_list_1 : decode cX6_list 1 = .ok (.istore_n 2, 1) := by decide +kernel
theorem dX6_list_2 : decode cX6_list 2 = .ok (.iconst 0, 1) := by decide +kernel
theorem dX6_list_3 : decode cX6_list 3 = .ok (.istore_n 3, 1) := by decide +kernel
theorem dX6_list_4 : decode cX6_list 4 = .ok (.iload_n 3, 1) := by decide +kernel
theorem dX6_list_5 : decode cX6_list 5 = .ok (.aload_n 0, 1) := by decide +kernel
theorem dX6_list_6 : decode cX6_list 6 = .ok (.getfield 47, 3) := by decide +kernel
theorem dX6_list_9 : decode cX6_list 9 = .ok (.aload_n 0, 1) := by decide +kernel
theorem dX6_list_10 : decode cX6_list 10 = .ok (.getfield 51, 3) := by decide +kernel
theorem dX6_list_13 : decode cX6_list 13 = .ok (.imul, 1) := by decide +kernel
theorem dX6_list_14 : decode cX6_list 14 = .ok (.if_icmp .ge 104, 3) := by decide +kernel
theorem dX6_list_17 : decode cX6_list 17 = .ok (.aload_n 0, 1) := by decide +kernel
theorem dX6_list_18 : decode cX6_list 18 = .ok (.getfield 19, 3) := by decide +kernel
theorem dX6_list_21 : decode cX6_list 21 = .ok (.iload_n 1, 1) := by decide +kernel
theorem dX6_list_22 : decode cX6_list 22 = .ok (.iaload, 1) := by decide +kernel
theorem dX6_list_23 : decode cX6_list 23 = .ok (.bipush (-9), 2) := by decide +kernel
theorem dX6_list_25 : decode cX6_list 25 = .ok (.if_icmp .ne 93, 3) := by decide +kernel
theorem dX6_list_28 : decode cX6_list 28 = .ok (.aload_n 0, 1) := by decide +kernel
theorem dX6_list_29 : decode cX6_list 29 = .ok (.getfield 7, 3) := by decide +kernel
theorem dX6_list_32 : decode cX6_list 32 = .ok (.bipush 16, 2) := by decide +kernel
theorem dX6_list_34 : decode cX6_list 34 = .ok (.iload_n 1, 1) := by decide +kernel
theorem dX6_list_35 : decode cX6_list 35 = .ok (.imul, 1) := by decide +kernel
theorem dX6_list_36 : decode cX6_list 36 = .ok (.iload_n 3, 1) := by decide +kernel
theorem dX6_list_37 : decode cX6_list 37 = .ok (.iadd, 1) := by decide +kernel
theorem dX6_list_38 : decode cX6_list 38 = .ok (.iaload, 1) := by decide +kernel
theorem dX6_list_39 : decode cX6_list 39 = .ok (.invokestatic 65, 3) := by decide +kernel
theorem dX6_list_42 : decode cX6_list 42 = .ok (.aload_n 0, 1) := by decide +kernel
theorem dX6_list_43 : decode cX6_list 43 = .ok (.getfield 16, 3) := by decide +kernel
theorem dX6_list_46 : decode cX6_list 46 = .ok (.iload_n 1, 1) := by decide +kernel
theorem dX6_list_47 : decode cX6_list 47 = .ok (.iaload, 1) := by decide +kernel
theorem dX6_list_48 : decode cX6_list 48 = .ok (.if_icmp .ne 12, 3) := by decide +kernel
theorem dX6_list_51 : decode cX6_list 51 = .ok (.aload_n 0, 1) := by decide +kernel
theorem dX6_list_52 : decode cX6_list 52 = .ok (.iload_n 1, 1) := by decide +kernel
theorem dX6_list_53 : decode cX6_list 53 = .ok (.iload_n 3, 1) := by decide +kernel
theorem dX6_list_54 : decode cX6_list 54 = .ok (.invokevirtual 122, 3) := by decide +kernel
theorem dX6_list_57 : decode cX6_list 57 = .ok (.goto 4, 3) := by decide +kernel
theorem dX6_list_60 : decode cX6_list 60 = .ok (.iconst 0, 1) := by decide +kernel
theorem dX6_list_61 : decode cX6_list 61 = .ok (.istore 4, 2) := by decide +kernel
theorem dX6_list_63 : decode cX6_list 63 = .ok (.iconst 0, 1) := by decide +kernel
theorem dX6_list_64 : decode cX6_list 64 = .ok (.istore 5, 2) := by decide +kernel
theorem dX6_list_66 : decode cX6_list 66 = .ok (.iload 5, 2) := by decide +kernel
theorem dX6_list_68 : decode cX6_list 68 = .ok (.bipush 16, 2) := by decide +kernel
theorem dX6_list_70 : decode cX6_list 70 = .ok (.if_icmp .ge 42, 3) := by decide +kernel
theorem dX6_list_73 : decode cX6_list 73 = .ok (.iload 4, 2) := by decide +kernel
theorem dX6_list_75 : decode cX6_list 75 = .ok (.iload 5, 2) := by decide +kernel
theorem dX6_list_77 : decode cX6_list 77 = .ok (.ishr, 1) := by decide +kernel
theorem dX6_list_78 : decode cX6_list 78 = .ok (.iconst 1, 1) := by decide +kernel
theorem dX6_list_79 : decode cX6_list 79 = .ok (.iand, 1) := by decide +kernel
theorem dX6_list_80 : decode cX6_list 80 = .ok (.iconst 1, 1) := by decide +kernel
theorem dX6_list_81 : decode cX6_list 81 = .ok (.if_icmp .ne 25, 3) := by decide +kernel
theorem dX6_list_84 : decode cX6_list 84 = .ok (.aload_n 0, 1) := by decide +kernel
theorem dX6_list_85 : decode cX6_list 85 = .ok (.getfield 25, 3) := by decide +kernel
theorem dX6_list_88 : decode cX6_list 88 = .ok (.sipush 256, 3) := by decide +kernel
theorem dX6_list_91 : decode cX6_list 91 = .ok (.iload_n 1, 1) := by decide +kernel
theorem dX6_list_92 : decode cX6_list 92 = .ok (.imul, 1) := by decide +kernel
theorem dX6_list_93 : decode cX6_list 93 = .ok (.iload_n 2, 1) := by decide +kernel
theorem dX6_list_94 : decode cX6_list 94 = .ok (.iadd, 1) := by decide +kernel
theorem dX6_list_95 : decode cX6_list 95 = .ok (.bipush 16, 2) := by decide +kernel
theorem dX6_list_97 : decode cX6_list 97 = .ok (.iload_n 3, 1) := by decide +kernel
theorem dX6_list_98 : decode cX6_list 98 = .ok (.imul, 1) := by decide +kernel
theorem dX6_list_99 : decode cX6_list 99 = .ok (.iload 5, 2) := by decide +kernel
theorem dX6_list_101 : decode cX6_list 101 = .ok (.iadd, 1) := by decide +kernel
theorem dX6_list_102 : decode cX6_list 102 = .ok (.iastore, 1) := by decide +kernel
theorem dX6_list_103 : decode cX6_list 103 = .ok (.iinc 2 1, 3) := by decide +kernel
theorem dX6_list_106 : decode cX6_list 106 = .ok (.iinc 5 1, 3) := by decide +kernel
theorem dX6_list_109 : decode cX6_list 109 = .ok (.goto (-43), 3) := by decide +kernel
theorem dX6_list_112 : decode cX6_list 112 = .ok (.iinc 3 1, 3) := by decide +kernel
theorem dX6_list_115 : decode cX6_list 115 = .ok (.goto (-111), 3) := by decide +kernel
theorem dX6_list_118 : decode cX6_list 118 = .ok (.iload_n 2, 1) := by decide +kernel
theorem dX6_list_119 : decode cX6_list 119 = .ok (.ifCond .ne 29, 3) := by decide +kernel
theorem dX6_list_122 : decode cX6_list 122 = .ok (.aload_n 0, 1) := by decide +kernel
theorem dX6_list_123 : decode cX6_list 123 = .ok (.getfield 19, 3) := by decide +kernel
theorem dX6_list_126 : decode cX6_list 126 = .ok (.iload_n 1, 1) := by decide +kernel
theorem dX6_list_127 : decode cX6_list 127 = .ok (.iaload, 1) := by decide +kernel
theorem dX6_list_128 : decode cX6_list 128 = .ok (.bipush (-9), 2) := by decide +kernel
theorem dX6_list_130 : decode cX6_list 130 = .ok (.if_icmp .ne 18, 3) := by decide +kernel
theorem dX6_list_133 : decode cX6_list 133 = .ok (.aload_n 0, 1) := by decide +kernel
theorem dX6_list_134 : decode cX6_list 134 = .ok (.getfield 25, 3) := by decide +kernel
theorem dX6_list_137 : decode cX6_list 137 = .ok (.sipush 256, 3) := by decide +kernel
theorem dX6_list_140 : decode cX6_list 140 = .ok (.iload_n 1, 1) := by decide +kernel
theorem dX6_list_141 : decode cX6_list 141 = .ok (.imul, 1) := by decide +kernel
theorem dX6_list_142 : decode cX6_list 142 = .ok (.sipush 999, 3) := by decide +kernel
theorem dX6_list_145 : decode cX6_list 145 = .ok (.iastore, 1) := by decide +kernel
theorem dX6_list_146 : decode cX6_list 146 = .ok (.iconst 1, 1) := by decide +kernel
theorem dX6_list_147 : decode cX6_list 147 = .ok (.istore_n 2, 1) := by decide +kernel
theorem dX6_list_148 : decode cX6_list 148 = .ok (.aload_n 0, 1) := by decide +kernel
theorem dX6_list_149 : decode cX6_list 149 = .ok (.getfield 28, 3) := by decide +kernel
theorem dX6_list_152 : decode cX6_list 152 = .ok (.iload_n 1, 1) := by decide +kernel
theorem dX6_list_153 : decode cX6_list 153 = .ok (.iload_n 2, 1) := by decide +kernel
theorem dX6_list_154 : decode cX6_list 154 = .ok (.iastore, 1) := by decide +kernel
theorem dX6_list_155 : decode cX6_list 155 = .ok (.iload_n 2, 1) := by decide +kernel
theorem dX6_list_156 : decode cX6_list 156 = .ok (.ireturn, 1) := by decide +kernel
theorem dX6_hasKing_0 : decode cX6_hasKing 0 = .ok (.iconst 0, 1) := by decide +kernel
theorem dX6_hasKing_1 : decode cX6_hasKing 1 = .ok (.istore_n 3, 1) := by decide +kernel
theorem dX6_hasKing_2 : decode cX6_hasKing 2 = .ok (.iconst 0, 1) := by decide +kernel
theorem dX6_hasKing_3 : decode cX6_hasKing 3 = .ok (.istore 4, 2) := by decide +kernel
theorem dX6_hasKing_5 : decode cX6_hasKing 5 = .ok (.iload 4, 2) := by decide +kernel
theorem dX6_hasKing_7 : decode cX6_hasKing 7 = .ok (.aload_n 0, 1) := by decide +kernel
theorem dX6_hasKing_8 : decode cX6_hasKing 8 = .ok (.getfield 47, 3) := by decide +kernel
theorem dX6_hasKing_11 : decode cX6_hasKing 11 = .ok (.aload_n 0, 1) := by decide +kernel
theorem dX6_hasKing_12 : decode cX6_hasKing 12 = .ok (.getfield 51, 3) := by decide +kernel
theorem dX6_hasKing_15 : decode cX6_hasKing 15 = .ok (.imul, 1) := by decide +kernel
theorem dX6_hasKing_16 : decode cX6_hasKing 16 = .ok (.if_icmp .ge 45, 3) := by decide +kernel
theorem dX6_hasKing_19 : decode cX6_hasKing 19 = .ok (.iload_n 3, 1) := by decide +kernel
theorem dX6_hasKing_20 : decode cX6_hasKing 20 = .ok (.ifCond .ne 29, 3) := by decide +kernel
theorem dX6_hasKing_23 : decode cX6_hasKing 23 = .ok (.aload_n 0, 1) := by decide +kernel
theorem dX6_hasKing_24 : decode cX6_hasKing 24 = .ok (.getfield 7, 3) := by decide +kernel
theorem dX6_hasKing_27 : decode cX6_hasKing 27 = .ok (.bipush 16, 2) := by decide +kernel
theorem dX6_hasKing_29 : decode cX6_hasKing 29 = .ok (.iload_n 1, 1) := by decide +kernel
theorem dX6_hasKing_30 : decode cX6_hasKing 30 = .ok (.imul, 1) := by decide +kernel
theorem dX6_hasKing_31 : decode cX6_hasKing 31 = .ok (.iload 4, 2) := by decide +kernel
theorem dX6_hasKing_33 : decode cX6_hasKing 33 = .ok (.iadd, 1) := by decide +kernel
theorem dX6_hasKing_34 : decode cX6_hasKing 34 = .ok (.iaload, 1) := by decide +kernel
theorem dX6_hasKing_35 : decode cX6_hasKing 35 = .ok (.iload_n 2, 1) := by decide +kernel
theorem dX6_hasKing_36 : decode cX6_hasKing 36 = .ok (.ifCond .ne 8, 3) := by decide +kernel
theorem dX6_hasKing_39 : decode cX6_hasKing 39 = .ok (.bipush 75, 2) := by decide +kernel
theorem dX6_hasKing_41 : decode cX6_hasKing 41 = .ok (.goto 5, 3) := by decide +kernel
theorem dX6_hasKing_44 : decode cX6_hasKing 44 = .ok (.bipush 107, 2) := by decide +kernel
theorem dX6_hasKing_46 : decode cX6_hasKing 46 = .ok (.if_icmp .ne 7, 3) := by decide +kernel
theorem dX6_hasKing_49 : decode cX6_hasKing 49 = .ok (.iconst 1, 1) := by decide +kernel
theorem dX6_hasKing_50 : decode cX6_hasKing 50 = .ok (.goto 4, 3) := by decide +kernel
theorem dX6_hasKing_53 : decode cX6_hasKing 53 = .ok (.iconst 0, 1) := by decide +kernel
theorem dX6_hasKing_54 : decode cX6_hasKing 54 = .ok (.istore_n 3, 1) := by decide +kernel
theorem dX6_hasKing_55 : decode cX6_hasKing 55 = .ok (.iinc 4 1, 3) := by decide +kernel
theorem dX6_hasKing_58 : decode cX6_hasKing 58 = .ok (.goto (-53), 3) := by decide +kernel
theorem dX6_hasKing_61 : decode cX6_hasKing 61 = .ok (.iload_n 3, 1) := by decide +kernel
theorem dX6_hasKing_62 : decode cX6_hasKing 62 = .ok (.ireturn, 1) := by decide +kernel
theorem dX6_make_0 : decode cX6_make 0 = .ok (.iconst 0, 1) := by decide +kernel
theorem dX6_make_1 : decode cX6_make 1 = .ok (.istore 4, 2) := by decide +kernel
theorem dX6_make_3 : decode cX6_make 3 = .ok (.iload 4, 2) := by decide +kernel
theorem dX6_make_5 : decode cX6_make 5 = .ok (.bipush 16, 2) := by decide +kernel
theorem dX6_make_7 : decode cX6_make 7 = .ok (.if_icmp .ge 94, 3) := by decide +kernel
theorem dX6_make_10 : decode cX6_make 10 = .ok (.aload_n 0, 1) := by decide +kernel
theorem dX6_make_11 : decode cX6_make 11 = .ok (.getfield 7, 3) := by decide +kernel
theorem dX6_make_14 : decode cX6_make 14 = .ok (.bipush 16, 2) := by decide +kernel
theorem dX6_make_16 : decode cX6_make 16 = .ok (.iload_n 1, 1) := by decide +kernel
theorem dX6_make_17 : decode cX6_make 17 = .ok (.imul, 1) := by decide +kernel
theorem dX6_make_18 : decode cX6_make 18 = .ok (.iload 4, 2) := by decide +kernel
theorem dX6_make_20 : decode cX6_make 20 = .ok (.iadd, 1) := by decide +kernel
theorem dX6_make_21 : decode cX6_make 21 = .ok (.iaload, 1) := by decide +kernel
theorem dX6_make_22 : decode cX6_make 22 = .ok (.istore 5, 2) := by decide +kernel
theorem dX6_make_24 : decode cX6_make 24 = .ok (.aload_n 0, 1) := by decide +kernel
theorem dX6_make_25 : decode cX6_make 25 = .ok (.getfield 13, 3) := by decide +kernel
theorem dX6_make_28 : decode cX6_make 28 = .ok (.bipush 16, 2) := by decide +kernel
theorem dX6_make_30 : decode cX6_make 30 = .ok (.iload_n 1, 1) := by decide +kernel
theorem dX6_make_31 : decode cX6_make 31 = .ok (.imul, 1) := by decide +kernel
theorem dX6_make_32 : decode cX6_make 32 = .ok (.iload 4, 2) := by decide +kernel
theorem dX6_make_34 : decode cX6_make 34 = .ok (.iadd, 1) := by decide +kernel
theorem dX6_make_35 : decode cX6_make 35 = .ok (.iaload, 1) := by decide +kernel
theorem dX6_make_36 : decode cX6_make 36 = .ok (.istore 6, 2) := by decide +kernel
theorem dX6_make_38 : decode cX6_make 38 = .ok (.aload_n 0, 1) := by decide +kernel
theorem dX6_make_39 : decode cX6_make 39 = .ok (.getfield 7, 3) := by decide +kernel
theorem dX6_make_42 : decode cX6_make 42 = .ok (.bipush 16, 2) := by decide +kernel
theorem dX6_make_44 : decode cX6_make 44 = .ok (.iload_n 2, 1) := by decide +kernel
theorem dX6_make_45 : decode cX6_make 45 = .ok (.imul, 1) := by decide +kernel
theorem dX6_make_46 : decode cX6_make 46 = .ok (.iload 4, 2) := by decide +kernel
theorem dX6_make_48 : decode cX6_make 48 = .ok (.iadd, 1) := by decide +kernel
theorem dX6_make_49 : decode cX6_make 49 = .ok (.iload 5, 2) := by decide +kernel
theorem dX6_make_51 : decode cX6_make 51 = .ok (.bipush 35, 2) := by decide +kernel
theorem dX6_make_53 : decode cX6_make 53 = .ok (.if_icmp .ne 14, 3) := by decide +kernel
theorem dX6_make_56 : decode cX6_make 56 = .ok (.iload 6, 2) := by decide +kernel
theorem dX6_make_58 : decode cX6_make 58 = .ok (.iconst 1, 1) := by decide +kernel
theorem dX6_make_59 : decode cX6_make 59 = .ok (.if_icmp .ne 8, 3) := by decide +kernel
theorem dX6_make_62 : decode cX6_make 62 = .ok (.bipush 46, 2) := by decide +kernel
theorem dX6_make_64 : decode cX6_make 64 = .ok (.goto 5, 3) := by decide +kernel
theorem dX6_make_67 : decode cX6_make 67 = .ok (.iload 5, 2) := by decide +kernel
theorem dX6_make_69 : decode cX6_make 69 = .ok (.iastore, 1) := by decide +kernel
theorem dX6_make_70 : decode cX6_make 70 = .ok (.aload_n 0, 1) := by decide +kernel
theorem dX6_make_71 : decode cX6_make 71 = .ok (.getfield 13, 3) := by decide +kernel
theorem dX6_make_74 : decode cX6_make 74 = .ok (.bipush 16, 2) := by decide +kernel
theorem dX6_make_76 : decode cX6_make 76 = .ok (.iload_n 2, 1) := by decide +kernel
theorem dX6_make_77 : decode cX6_make 77 = .ok (.imul, 1) := by decide +kernel
theorem dX6_make_78 : decode cX6_make 78 = .ok (.iload 4, 2) := by decide +kernel
theorem dX6_make_80 : decode cX6_make 80 = .ok (.iadd, 1) := by decide +kernel
theorem dX6_make_81 : decode cX6_make 81 = .ok (.iload 6, 2) := by decide +kernel
theorem dX6_make_83 : decode cX6_make 83 = .ok (.ifCond .le 10, 3) := by decide +kernel
theorem dX6_make_86 : decode cX6_make 86 = .ok (.iload 6, 2) := by decide +kernel
theorem dX6_make_88 : decode cX6_make 88 = .ok (.iconst 1, 1) := by decide +kernel
theorem dX6_make_89 : decode cX6_make 89 = .ok (.isub, 1) := by decide +kernel
theorem dX6_make_90 : decode cX6_make 90 = .ok (.goto 4, 3) := by decide +kernel
theorem dX6_make_93 : decode cX6_make 93 = .ok (.iconst 0, 1) := by decide +kernel
theorem dX6_make_94 : decode cX6_make 94 = .ok (.iastore, 1) := by decide +kernel
theorem dX6_make_95 : decode cX6_make 95 = .ok (.iinc 4 1, 3) := by decide +kernel
theorem dX6_make_98 : decode cX6_make 98 = .ok (.goto (-95), 3) := by decide +kernel
theorem dX6_make_101 : decode cX6_make 101 = .ok (.aload_n 0, 1) := by decide +kernel
theorem dX6_make_102 : decode cX6_make 102 = .ok (.getfield 16, 3) := by decide +kernel
theorem dX6_make_105 : decode cX6_make 105 = .ok (.iload_n 1, 1) := by decide +kernel
theorem dX6_make_106 : decode cX6_make 106 = .ok (.iaload, 1) := by decide +kernel
theorem dX6_make_107 : decode cX6_make 107 = .ok (.istore 4, 2) := by decide +kernel
theorem dX6_make_109 : decode cX6_make 109 = .ok (.aload_n 0, 1) := by decide +kernel
theorem dX6_make_110 : decode cX6_make 110 = .ok (.getfield 16, 3) := by decide +kernel
theorem dX6_make_113 : decode cX6_make 113 = .ok (.iload_n 2, 1) := by decide +kernel
theorem dX6_make_114 : decode cX6_make 114 = .ok (.iconst 1, 1) := by decide +kernel
theorem dX6_make_115 : decode cX6_make 115 = .ok (.iload 4, 2) := by decide +kernel
theorem dX6_make_117 : decode cX6_make 117 = .ok (.isub, 1) := by decide +kernel
theorem dX6_make_118 : decode cX6_make 118 = .ok (.iastore, 1) := by decide +kernel
theorem dX6_make_119 : decode cX6_make 119 = .ok (.aload_n 0, 1) := by decide +kernel
theorem dX6_make_120 : decode cX6_make 120 = .ok (.getfield 19, 3) := by decide +kernel
theorem dX6_make_123 : decode cX6_make 123 = .ok (.iload_n 2, 1) := by decide +kernel
theorem dX6_make_124 : decode cX6_make 124 = .ok (.bipush (-9), 2) := by decide +kernel
theorem dX6_make_126 : decode cX6_make 126 = .ok (.iastore, 1) := by decide +kernel
theorem dX6_make_127 : decode cX6_make 127 = .ok (.iload_n 3, 1) := by decide +kernel
theorem dX6_make_128 : decode cX6_make 128 = .ok (.sipush 999, 3) := by decide +kernel
theorem dX6_make_131 : decode cX6_make 131 = .ok (.if_icmp .ne 5, 3) := by decide +kernel
theorem dX6_make_134 : decode cX6_make 134 = .ok (.iconst 0, 1) := by decide +kernel
theorem dX6_make_135 : decode cX6_make 135 = .ok (.ireturn, 1) := by decide +kernel
theorem dX6_make_136 : decode cX6_make 136 = .ok (.bipush 16, 2) := by decide +kernel
theorem dX6_make_138 : decode cX6_make 138 = .ok (.iload_n 2, 1) := by decide +kernel
theorem dX6_make_139 : decode cX6_make 139 = .ok (.imul, 1) := by decide +kernel
theorem dX6_make_140 : decode cX6_make 140 = .ok (.iload_n 3, 1) := by decide +kernel
theorem dX6_make_141 : decode cX6_make 141 = .ok (.bipush 16, 2) := by decide +kernel
theorem dX6_make_143 : decode cX6_make 143 = .ok (.idiv, 1) := by decide +kernel
theorem dX6_make_144 : decode cX6_make 144 = .ok (.iadd, 1) := by decide +kernel
theorem dX6_make_145 : decode cX6_make 145 = .ok (.istore 5, 2) := by decide +kernel
theorem dX6_make_147 : decode cX6_make 147 = .ok (.bipush 16, 2) := by decide +kernel
theorem dX6_make_149 : decode cX6_make 149 = .ok (.iload_n 2, 1) := by decide +kernel
theorem dX6_make_150 : decode cX6_make 150 = .ok (.imul, 1) := by decide +kernel
theorem dX6_make_151 : decode cX6_make 151 = .ok (.iload_n 3, 1) := by decide +kernel
theorem dX6_make_152 : decode cX6_make 152 = .ok (.bipush 16, 2) := by decide +kernel
theorem dX6_make_154 : decode cX6_make 154 = .ok (.irem, 1) := by decide +kernel
theorem dX6_make_155 : decode cX6_make 155 = .ok (.iadd, 1) := by decide +kernel
theorem dX6_make_156 : decode cX6_make 156 = .ok (.istore 6, 2) := by decide +kernel
theorem dX6_make_158 : decode cX6_make 158 = .ok (.aload_n 0, 1) := by decide +kernel
theorem dX6_make_159 : decode cX6_make 159 = .ok (.getfield 7, 3) := by decide +kernel
theorem dX6_make_162 : decode cX6_make 162 = .ok (.iload 6, 2) := by decide +kernel
theorem dX6_make_164 : decode cX6_make 164 = .ok (.iaload, 1) := by decide +kernel
theorem dX6_make_165 : decode cX6_make 165 = .ok (.istore 7, 2) := by decide +kernel
theorem dX6_make_167 : decode cX6_make 167 = .ok (.iload 7, 2) := by decide +kernel
theorem dX6_make_169 : decode cX6_make 169 = .ok (.invokestatic 65, 3) := by decide +kernel
theorem dX6_make_172 : decode cX6_make 172 = .ok (.bipush (-9), 2) := by decide +kernel
theorem dX6_make_174 : decode cX6_make 174 = .ok (.if_icmp .ne 28, 3) := by decide +kernel
theorem dX6_make_177 : decode cX6_make 177 = .ok (.aload_n 0, 1) := by decide +kernel
theorem dX6_make_178 : decode cX6_make 178 = .ok (.getfield 7, 3) := by decide +kernel
theorem dX6_make_181 : decode cX6_make 181 = .ok (.iload 6, 2) := by decide +kernel
theorem dX6_make_183 : decode cX6_make 183 = .ok (.aload_n 0, 1) := by decide +kernel
theorem dX6_make_184 : decode cX6_make 184 = .ok (.getfield 7, 3) := by decide +kernel
theorem dX6_make_187 : decode cX6_make 187 = .ok (.iload 5, 2) := by decide +kernel
theorem dX6_make_189 : decode cX6_make 189 = .ok (.iaload, 1) := by decide +kernel
theorem dX6_make_190 : decode cX6_make 190 = .ok (.iastore, 1) := by decide +kernel
theorem dX6_make_191 : decode cX6_make 191 = .ok (.aload_n 0, 1) := by decide +kernel
theorem dX6_make_192 : decode cX6_make 192 = .ok (.getfield 7, 3) := by decide +kernel
theorem dX6_make_195 : decode cX6_make 195 = .ok (.iload 5, 2) := by decide +kernel
theorem dX6_make_197 : decode cX6_make 197 = .ok (.bipush 46, 2) := by decide +kernel
theorem dX6_make_199 : decode cX6_make 199 = .ok (.iastore, 1) := by decide +kernel
theorem dX6_make_200 : decode cX6_make 200 = .ok (.iconst 0, 1) := by decide +kernel
theorem dX6_make_201 : decode cX6_make 201 = .ok (.ireturn, 1) := by decide +kernel
theorem dX6_make_202 : decode cX6_make 202 = .ok (.aload_n 0, 1) := by decide +kernel
theorem dX6_make_203 : decode cX6_make 203 = .ok (.getfield 7, 3) := by decide +kernel
theorem dX6_make_206 : decode cX6_make 206 = .ok (.iload 6, 2) := by decide +kernel
theorem dX6_make_208 : decode cX6_make 208 = .ok (.bipush 35, 2) := by decide +kernel
theorem dX6_make_210 : decode cX6_make 210 = .ok (.iastore, 1) := by decide +kernel
theorem dX6_make_211 : decode cX6_make 211 = .ok (.aload_n 0, 1) := by decide +kernel
theorem dX6_make_212 : decode cX6_make 212 = .ok (.getfield 13, 3) := by decide +kernel
theorem dX6_make_215 : decode cX6_make 215 = .ok (.iload 6, 2) := by decide +kernel
theorem dX6_make_217 : decode cX6_make 217 = .ok (.aload_n 0, 1) := by decide +kernel
theorem dX6_make_218 : decode cX6_make 218 = .ok (.getfield 88, 3) := by decide +kernel
theorem dX6_make_221 : decode cX6_make 221 = .ok (.iastore, 1) := by decide +kernel
theorem dX6_make_222 : decode cX6_make 222 = .ok (.iload 7, 2) := by decide +kernel
theorem dX6_make_224 : decode cX6_make 224 = .ok (.invokestatic 105, 3) := by decide +kernel
theorem dX6_make_227 : decode cX6_make 227 = .ok (.bipush 75, 2) := by decide +kernel
theorem dX6_make_229 : decode cX6_make 229 = .ok (.if_icmp .ne 7, 3) := by decide +kernel
theorem dX6_make_232 : decode cX6_make 232 = .ok (.iconst 1, 1) := by decide +kernel
theorem dX6_make_233 : decode cX6_make 233 = .ok (.goto 4, 3) := by decide +kernel
theorem dX6_make_236 : decode cX6_make 236 = .ok (.iconst 0, 1) := by decide +kernel
theorem dX6_make_237 : decode cX6_make 237 = .ok (.istore 8, 2) := by decide +kernel
theorem dX6_make_239 : decode cX6_make 239 = .ok (.aload_n 0, 1) := by decide +kernel
theorem dX6_make_240 : decode cX6_make 240 = .ok (.getfield 19, 3) := by decide +kernel
theorem dX6_make_243 : decode cX6_make 243 = .ok (.iload_n 2, 1) := by decide +kernel
theorem dX6_make_244 : decode cX6_make 244 = .ok (.iload 8, 2) := by decide +kernel
theorem dX6_make_246 : decode cX6_make 246 = .ok (.ifCond .eq 22, 3) := by decide +kernel
theorem dX6_make_249 : decode cX6_make 249 = .ok (.aload_n 0, 1) := by decide +kernel
theorem dX6_make_250 : decode cX6_make 250 = .ok (.iload_n 2, 1) := by decide +kernel
theorem dX6_make_251 : decode cX6_make 251 = .ok (.iconst 1, 1) := by decide +kernel
theorem dX6_make_252 : decode cX6_make 252 = .ok (.iload 4, 2) := by decide +kernel
theorem dX6_make_254 : decode cX6_make 254 = .ok (.isub, 1) := by decide +kernel
theorem dX6_make_255 : decode cX6_make 255 = .ok (.invokevirtual 126, 3) := by decide +kernel
theorem dX6_make_258 : decode cX6_make 258 = .ok (.ifCond .ne 10, 3) := by decide +kernel
theorem dX6_make_261 : decode cX6_make 261 = .ok (.iconst 1, 1) := by decide +kernel
theorem dX6_make_262 : decode cX6_make 262 = .ok (.iload 4, 2) := by decide +kernel
theorem dX6_make_264 : decode cX6_make 264 = .ok (.isub, 1) := by decide +kernel
theorem dX6_make_265 : decode cX6_make 265 = .ok (.goto 5, 3) := by decide +kernel
theorem dX6_make_268 : decode cX6_make 268 = .ok (.bipush (-9), 2) := by decide +kernel
theorem dX6_make_270 : decode cX6_make 270 = .ok (.iastore, 1) := by decide +kernel
theorem dX6_make_271 : decode cX6_make 271 = .ok (.iload 8, 2) := by decide +kernel
theorem dX6_make_273 : decode cX6_make 273 = .ok (.ifCond .eq 7, 3) := by decide +kernel
theorem dX6_make_276 : decode cX6_make 276 = .ok (.iconst 1, 1) := by decide +kernel
theorem dX6_make_277 : decode cX6_make 277 = .ok (.goto 4, 3) := by decide +kernel
theorem dX6_make_280 : decode cX6_make 280 = .ok (.iconst 0, 1) := by decide +kernel
theorem dX6_make_281 : decode cX6_make 281 = .ok (.ireturn, 1) := by decide +kernel
theorem dX6_plies_0 : decode cX6_plies 0 = .ok (.aload_n 0, 1) := by decide +kernel
theorem dX6_plies_1 : decode cX6_plies 1 = .ok (.iconst 0, 1) := by decide +kernel
theorem dX6_plies_2 : decode cX6_plies 2 = .ok (.invokevirtual 130, 3) := by decide +kernel
theorem dX6_plies_5 : decode cX6_plies 5 = .ok (.ireturn, 1) := by decide +kernel
theorem dX6_keepPly_0 : decode cX6_keepPly 0 = .ok (.iconst 0, 1) := by decide +kernel
theorem dX6_keepPly_1 : decode cX6_keepPly 1 = .ok (.istore_n 1, 1) := by decide +kernel
theorem dX6_keepPly_2 : decode cX6_keepPly 2 = .ok (.iload_n 1, 1) := by decide +kernel
theorem dX6_keepPly_3 : decode cX6_keepPly 3 = .ok (.bipush 16, 2) := by decide +kernel
theorem dX6_keepPly_5 : decode cX6_keepPly 5 = .ok (.if_icmp .ge 52, 3) := by decide +kernel
theorem dX6_keepPly_8 : decode cX6_keepPly 8 = .ok (.aload_n 0, 1) := by decide +kernel
theorem dX6_keepPly_9 : decode cX6_keepPly 9 = .ok (.getfield 31, 3) := by decide +kernel
theorem dX6_keepPly_12 : decode cX6_keepPly 12 = .ok (.bipush 34, 2) := by decide +kernel
theorem dX6_keepPly_14 : decode cX6_keepPly 14 = .ok (.aload_n 0, 1) := by decide +kernel
theorem dX6_keepPly_15 : decode cX6_keepPly 15 = .ok (.getfield 133, 3) := by decide +kernel
theorem dX6_keepPly_18 : decode cX6_keepPly 18 = .ok (.imul, 1) := by decide +kernel
theorem dX6_keepPly_19 : decode cX6_keepPly 19 = .ok (.iload_n 1, 1) := by decide +kernel
theorem dX6_keepPly_20 : decode cX6_keepPly 20 = .ok (.iadd, 1) := by decide +kernel
theorem dX6_keepPly_21 : decode cX6_keepPly 21 = .ok (.aload_n 0, 1) := by decide +kernel
theorem dX6_keepPly_22 : decode cX6_keepPly 22 = .ok (.getfield 7, 3) := by decide +kernel
theorem dX6_keepPly_25 : decode cX6_keepPly 25 = .ok (.iload_n 1, 1) := by decide +kernel
theorem dX6_keepPly_26 : decode cX6_keepPly 26 = .ok (.iaload, 1) := by decide +kernel
theorem dX6_keepPly_27 : decode cX6_keepPly 27 = .ok (.iastore, 1) := by decide +kernel
theorem dX6_keepPly_28 : decode cX6_keepPly 28 = .ok (.aload_n 0, 1) := by decide +kernel
theorem dX6_keepPly_29 : decode cX6_keepPly 29 = .ok (.getfield 31, 3) := by decide +kernel
theorem dX6_keepPly_32 : decode cX6_keepPly 32 = .ok (.bipush 34, 2) := by decide +kernel
theorem dX6_keepPly_34 : decode cX6_keepPly 34 = .ok (.aload_n 0, 1) := by decide +kernel
theorem dX6_keepPly_35 : decode cX6_keepPly 35 = .ok (.getfield 133, 3) := by decide +kernel
theorem dX6_keepPly_38 : decode cX6_keepPly 38 = .ok (.imul, 1) := by decide +kernel
theorem dX6_keepPly_39 : decode cX6_keepPly 39 = .ok (.bipush 16, 2) := by decide +kernel
theorem dX6_keepPly_41 : decode cX6_keepPly 41 = .ok (.iadd, 1) := by decide +kernel
theorem dX6_keepPly_42 : decode cX6_keepPly 42 = .ok (.iload_n 1, 1) := by decide +kernel
theorem dX6_keepPly_43 : decode cX6_keepPly 43 = .ok (.iadd, 1) := by decide +kernel
theorem dX6_keepPly_44 : decode cX6_keepPly 44 = .ok (.aload_n 0, 1) := by decide +kernel
theorem dX6_keepPly_45 : decode cX6_keepPly 45 = .ok (.getfield 13, 3) := by decide +kernel
theorem dX6_keepPly_48 : decode cX6_keepPly 48 = .ok (.iload_n 1, 1) := by decide +kernel
theorem dX6_keepPly_49 : decode cX6_keepPly 49 = .ok (.iaload, 1) := by decide +kernel
theorem dX6_keepPly_50 : decode cX6_keepPly 50 = .ok (.iastore, 1) := by decide +kernel
theorem dX6_keepPly_51 : decode cX6_keepPly 51 = .ok (.iinc 1 1, 3) := by decide +kernel
theorem dX6_keepPly_54 : decode cX6_keepPly 54 = .ok (.goto (-52), 3) := by decide +kernel
theorem dX6_keepPly_57 : decode cX6_keepPly 57 = .ok (.aload_n 0, 1) := by decide +kernel
theorem dX6_keepPly_58 : decode cX6_keepPly 58 = .ok (.getfield 31, 3) := by decide +kernel
theorem dX6_keepPly_61 : decode cX6_keepPly 61 = .ok (.bipush 34, 2) := by decide +kernel
theorem dX6_keepPly_63 : decode cX6_keepPly 63 = .ok (.aload_n 0, 1) := by decide +kernel
theorem dX6_keepPly_64 : decode cX6_keepPly 64 = .ok (.getfield 133, 3) := by decide +kernel
theorem dX6_keepPly_67 : decode cX6_keepPly 67 = .ok (.imul, 1) := by decide +kernel
theorem dX6_keepPly_68 : decode cX6_keepPly 68 = .ok (.bipush 32, 2) := by decide +kernel
theorem dX6_keepPly_70 : decode cX6_keepPly 70 = .ok (.iadd, 1) := by decide +kernel
theorem dX6_keepPly_71 : decode cX6_keepPly 71 = .ok (.aload_n 0, 1) := by decide +kernel
theorem dX6_keepPly_72 : decode cX6_keepPly 72 = .ok (.getfield 16, 3) := by decide +kernel
theorem dX6_keepPly_75 : decode cX6_keepPly 75 = .ok (.iconst 0, 1) := by decide +kernel
theorem dX6_keepPly_76 : decode cX6_keepPly 76 = .ok (.iaload, 1) := by decide +kernel
theorem dX6_keepPly_77 : decode cX6_keepPly 77 = .ok (.iastore, 1) := by decide +kernel
theorem dX6_keepPly_78 : decode cX6_keepPly 78 = .ok (.aload_n 0, 1) := by decide +kernel
theorem dX6_keepPly_79 : decode cX6_keepPly 79 = .ok (.getfield 31, 3) := by decide +kernel
theorem dX6_keepPly_82 : decode cX6_keepPly 82 = .ok (.bipush 34, 2) := by decide +kernel
theorem dX6_keepPly_84 : decode cX6_keepPly 84 = .ok (.aload_n 0, 1) := by decide +kernel
theorem dX6_keepPly_85 : decode cX6_keepPly 85 = .ok (.getfield 133, 3) := by decide +kernel
theorem dX6_keepPly_88 : decode cX6_keepPly 88 = .ok (.imul, 1) := by decide +kernel
theorem dX6_keepPly_89 : decode cX6_keepPly 89 = .ok (.bipush 33, 2) := by decide +kernel
theorem dX6_keepPly_91 : decode cX6_keepPly 91 = .ok (.iadd, 1) := by decide +kernel
theorem dX6_keepPly_92 : decode cX6_keepPly 92 = .ok (.aload_n 0, 1) := by decide +kernel
theorem dX6_keepPly_93 : decode cX6_keepPly 93 = .ok (.getfield 19, 3) := by decide +kernel
theorem dX6_keepPly_96 : decode cX6_keepPly 96 = .ok (.iconst 0, 1) := by decide +kernel
theorem dX6_keepPly_97 : decode cX6_keepPly 97 = .ok (.iaload, 1) := by decide +kernel
theorem dX6_keepPly_98 : decode cX6_keepPly 98 = .ok (.iastore, 1) := by decide +kernel
theorem dX6_keepPly_99 : decode cX6_keepPly 99 = .ok (.aload_n 0, 1) := by decide +kernel
theorem dX6_keepPly_100 : decode cX6_keepPly 100 = .ok (.aload_n 0, 1) := by decide +kernel
theorem dX6_keepPly_101 : decode cX6_keepPly 101 = .ok (.getfield 133, 3) := by decide +kernel
theorem dX6_keepPly_104 : decode cX6_keepPly 104 = .ok (.iconst 1, 1) := by decide +kernel
theorem dX6_keepPly_105 : decode cX6_keepPly 105 = .ok (.iadd, 1) := by decide +kernel
theorem dX6_keepPly_106 : decode cX6_keepPly 106 = .ok (.bipush 16, 2) := by decide +kernel
theorem dX6_keepPly_108 : decode cX6_keepPly 108 = .ok (.irem, 1) := by decide +kernel
theorem dX6_keepPly_109 : decode cX6_keepPly 109 = .ok (.putfield 133, 3) := by decide +kernel
theorem dX6_keepPly_112 : decode cX6_keepPly 112 = .ok (.aload_n 0, 1) := by decide +kernel
theorem dX6_keepPly_113 : decode cX6_keepPly 113 = .ok (.aload_n 0, 1) := by decide +kernel
theorem dX6_keepPly_114 : decode cX6_keepPly 114 = .ok (.getfield 91, 3) := by decide +kernel
theorem dX6_keepPly_117 : decode cX6_keepPly 117 = .ok (.bipush 16, 2) := by decide +kernel
theorem dX6_keepPly_119 : decode cX6_keepPly 119 = .ok (.if_icmp .ge 12, 3) := by decide +kernel
theorem dX6_keepPly_122 : decode cX6_keepPly 122 = .ok (.aload_n 0, 1) := by decide +kernel
theorem dX6_keepPly_123 : decode cX6_keepPly 123 = .ok (.getfield 91, 3) := by decide +kernel
theorem dX6_keepPly_126 : decode cX6_keepPly 126 = .ok (.iconst 1, 1) := by decide +kernel
theorem dX6_keepPly_127 : decode cX6_keepPly 127 = .ok (.iadd, 1) := by decide +kernel
theorem dX6_keepPly_128 : decode cX6_keepPly 128 = .ok (.goto 5, 3) := by decide +kernel
theorem dX6_keepPly_131 : decode cX6_keepPly 131 = .ok (.bipush 16, 2) := by decide +kernel
theorem dX6_keepPly_133 : decode cX6_keepPly 133 = .ok (.putfield 91, 3) := by decide +kernel
theorem dX6_keepPly_136 : decode cX6_keepPly 136 = .ok (.return_, 1) := by decide +kernel
theorem dX6_isPly_0 : decode cX6_isPly 0 = .ok (.aload_n 0, 1) := by decide +kernel
theorem dX6_isPly_1 : decode cX6_isPly 1 = .ok (.getfield 19, 3) := by decide +kernel
theorem dX6_isPly_4 : decode cX6_isPly 4 = .ok (.iload_n 1, 1) := by decide +kernel
theorem dX6_isPly_5 : decode cX6_isPly 5 = .ok (.iaload, 1) := by decide +kernel
theorem dX6_isPly_6 : decode cX6_isPly 6 = .ok (.bipush (-9), 2) := by decide +kernel
theorem dX6_isPly_8 : decode cX6_isPly 8 = .ok (.if_icmp .ne 44, 3) := by decide +kernel
theorem dX6_isPly_11 : decode cX6_isPly 11 = .ok (.aload_n 0, 1) := by decide +kernel
theorem dX6_isPly_12 : decode cX6_isPly 12 = .ok (.getfield 7, 3) := by decide +kernel
theorem dX6_isPly_15 : decode cX6_isPly 15 = .ok (.bipush 16, 2) := by decide +kernel
theorem dX6_isPly_17 : decode cX6_isPly 17 = .ok (.iload_n 1, 1) := by decide +kernel
theorem dX6_isPly_18 : decode cX6_isPly 18 = .ok (.imul, 1) := by decide +kernel
theorem dX6_isPly_19 : decode cX6_isPly 19 = .ok (.iload_n 2, 1) := by decide +kernel
theorem dX6_isPly_20 : decode cX6_isPly 20 = .ok (.iadd, 1) := by decide +kernel
theorem dX6_isPly_21 : decode cX6_isPly 21 = .ok (.iaload, 1) := by decide +kernel
theorem dX6_isPly_22 : decode cX6_isPly 22 = .ok (.invokestatic 65, 3) := by decide +kernel
theorem dX6_isPly_25 : decode cX6_isPly 25 = .ok (.aload_n 0, 1) := by decide +kernel
theorem dX6_isPly_26 : decode cX6_isPly 26 = .ok (.getfield 16, 3) := by decide +kernel
theorem dX6_isPly_29 : decode cX6_isPly 29 = .ok (.iload_n 1, 1) := by decide +kernel
theorem dX6_isPly_30 : decode cX6_isPly 30 = .ok (.iaload, 1) := by decide +kernel
theorem dX6_isPly_31 : decode cX6_isPly 31 = .ok (.if_icmp .ne 21, 3) := by decide +kernel
theorem dX6_isPly_34 : decode cX6_isPly 34 = .ok (.aload_n 0, 1) := by decide +kernel
theorem dX6_isPly_35 : decode cX6_isPly 35 = .ok (.iload_n 1, 1) := by decide +kernel
theorem dX6_isPly_36 : decode cX6_isPly 36 = .ok (.iload_n 2, 1) := by decide +kernel
theorem dX6_isPly_37 : decode cX6_isPly 37 = .ok (.invokevirtual 122, 3) := by decide +kernel
theorem dX6_isPly_40 : decode cX6_isPly 40 = .ok (.iload_n 3, 1) := by decide +kernel
theorem dX6_isPly_41 : decode cX6_isPly 41 = .ok (.ishr, 1) := by decide +kernel
theorem dX6_isPly_42 : decode cX6_isPly 42 = .ok (.iconst 1, 1) := by decide +kernel
theorem dX6_isPly_43 : decode cX6_isPly 43 = .ok (.iand, 1) := by decide +kernel
theorem dX6_isPly_44 : decode cX6_isPly 44 = .ok (.iconst 1, 1) := by decide +kernel
theorem dX6_isPly_45 : decode cX6_isPly 45 = .ok (.if_icmp .ne 7, 3) := by decide +kernel
theorem dX6_isPly_48 : decode cX6_isPly 48 = .ok (.iconst 1, 1) := by decide +kernel
theorem dX6_isPly_49 : decode cX6_isPly 49 = .ok (.goto 4, 3) := by decide +kernel
theorem dX6_isPly_52 : decode cX6_isPly 52 = .ok (.iconst 0, 1) := by decide +kernel
theorem dX6_isPly_53 : decode cX6_isPly 53 = .ok (.ireturn, 1) := by decide +kernel
theorem dX6_move_0 : decode cX6_move 0 = .ok (.aload_n 0, 1) := by decide +kernel
theorem dX6_move_1 : decode cX6_move 1 = .ok (.iload_n 1, 1) := by decide +kernel
theorem dX6_move_2 : decode cX6_move 2 = .ok (.invokevirtual 94, 3) := by decide +kernel
theorem dX6_move_5 : decode cX6_move 5 = .ok (.ifCond .eq 11, 3) := by decide +kernel
theorem dX6_move_8 : decode cX6_move 8 = .ok (.aload_n 0, 1) := by decide +kernel
theorem dX6_move_9 : decode cX6_move 9 = .ok (.iload_n 2, 1) := by decide +kernel
theorem dX6_move_10 : decode cX6_move 10 = .ok (.invokevirtual 94, 3) := by decide +kernel
theorem dX6_move_13 : decode cX6_move 13 = .ok (.ifCond .ne 5, 3) := by decide +kernel
theorem dX6_move_16 : decode cX6_move 16 = .ok (.iconst (-1), 1) := by decide +kernel
theorem dX6_move_17 : decode cX6_move 17 = .ok (.ireturn, 1) := by decide +kernel
theorem dX6_move_18 : decode cX6_move 18 = .ok (.aload_n 0, 1) := by decide +kernel
theorem dX6_move_19 : decode cX6_move 19 = .ok (.iconst 0, 1) := by decide +kernel
theorem dX6_move_20 : decode cX6_move 20 = .ok (.iload_n 1, 1) := by decide +kernel
theorem dX6_move_21 : decode cX6_move 21 = .ok (.iload_n 2, 1) := by decide +kernel
theorem dX6_move_22 : decode cX6_move 22 = .ok (.invokevirtual 136, 3) := by decide +kernel
theorem dX6_move_25 : decode cX6_move 25 = .ok (.ifCond .ne 6, 3) := by decide +kernel
theorem dX6_move_28 : decode cX6_move 28 = .ok (.bipush (-3), 2) := by decide +kernel
theorem dX6_move_30 : decode cX6_move 30 = .ok (.ireturn, 1) := by decide +kernel
theorem dX6_move_31 : decode cX6_move 31 = .ok (.aload_n 0, 1) := by decide +kernel
theorem dX6_move_32 : decode cX6_move 32 = .ok (.invokevirtual 140, 3) := by decide +kernel
theorem dX6_move_35 : decode cX6_move 35 = .ok (.aload_n 0, 1) := by decide +kernel
theorem dX6_move_36 : decode cX6_move 36 = .ok (.getfield 7, 3) := by decide +kernel
theorem dX6_move_39 : decode cX6_move 39 = .ok (.iload_n 2, 1) := by decide +kernel
theorem dX6_move_40 : decode cX6_move 40 = .ok (.iaload, 1) := by decide +kernel
theorem dX6_move_41 : decode cX6_move 41 = .ok (.istore_n 3, 1) := by decide +kernel
theorem dX6_move_42 : decode cX6_move 42 = .ok (.aload_n 0, 1) := by decide +kernel
theorem dX6_move_43 : decode cX6_move 43 = .ok (.iconst 0, 1) := by decide +kernel
theorem dX6_move_44 : decode cX6_move 44 = .ok (.iconst 0, 1) := by decide +kernel
theorem dX6_move_45 : decode cX6_move 45 = .ok (.bipush 16, 2) := by decide +kernel
theorem dX6_move_47 : decode cX6_move 47 = .ok (.iload_n 1, 1) := by decide +kernel
theorem dX6_move_48 : decode cX6_move 48 = .ok (.imul, 1) := by decide +kernel
theorem dX6_move_49 : decode cX6_move 49 = .ok (.iload_n 2, 1) := by decide +kernel
theorem dX6_move_50 : decode cX6_move 50 = .ok (.iadd, 1) := by decide +kernel
theorem dX6_move_51 : decode cX6_move 51 = .ok (.invokevirtual 143, 3) := by decide +kernel
theorem dX6_move_54 : decode cX6_move 54 = .ok (.pop, 1) := by decide +kernel
theorem dX6_move_55 : decode cX6_move 55 = .ok (.iload_n 3, 1) := by decide +kernel
theorem dX6_move_56 : decode cX6_move 56 = .ok (.ireturn, 1) := by decide +kernel
theorem dX6_pass_0 : decode cX6_pass 0 = .ok (.aload_n 0, 1) := by decide +kernel
theorem dX6_pass_1 : decode cX6_pass 1 = .ok (.iconst 0, 1) := by decide +kernel
theorem dX6_pass_2 : decode cX6_pass 2 = .ok (.invokevirtual 130, 3) := by decide +kernel
theorem dX6_pass_5 : decode cX6_pass 5 = .ok (.pop, 1) := by decide +kernel
theorem dX6_pass_6 : decode cX6_pass 6 = .ok (.aload_n 0, 1) := by decide +kernel
theorem dX6_pass_7 : decode cX6_pass 7 = .ok (.getfield 19, 3) := by decide +kernel
theorem dX6_pass_10 : decode cX6_pass 10 = .ok (.iconst 0, 1) := by decide +kernel
theorem dX6_pass_11 : decode cX6_pass 11 = .ok (.iaload, 1) := by decide +kernel
theorem dX6_pass_12 : decode cX6_pass 12 = .ok (.bipush (-9), 2) := by decide +kernel
theorem dX6_pass_14 : decode cX6_pass 14 = .ok (.if_icmp .ne 15, 3) := by decide +kernel
theorem dX6_pass_17 : decode cX6_pass 17 = .ok (.aload_n 0, 1) := by decide +kernel
theorem dX6_pass_18 : decode cX6_pass 18 = .ok (.getfield 25, 3) := by decide +kernel
theorem dX6_pass_21 : decode cX6_pass 21 = .ok (.iconst 0, 1) := by decide +kernel
theorem dX6_pass_22 : decode cX6_pass 22 = .ok (.iaload, 1) := by decide +kernel
theorem dX6_pass_23 : decode cX6_pass 23 = .ok (.sipush 999, 3) := by decide +kernel
theorem dX6_pass_26 : decode cX6_pass 26 = .ok (.if_icmp .eq 6, 3) := by decide +kernel
theorem dX6_pass_29 : decode cX6_pass 29 = .ok (.bipush (-3), 2) := by decide +kernel
theorem dX6_pass_31 : decode cX6_pass 31 = .ok (.ireturn, 1) := by decide +kernel
theorem dX6_pass_32 : decode cX6_pass 32 = .ok (.aload_n 0, 1) := by decide +kernel
theorem dX6_pass_33 : decode cX6_pass 33 = .ok (.invokevirtual 140, 3) := by decide +kernel
theorem dX6_pass_36 : decode cX6_pass 36 = .ok (.aload_n 0, 1) := by decide +kernel
theorem dX6_pass_37 : decode cX6_pass 37 = .ok (.iconst 0, 1) := by decide +kernel
theorem dX6_pass_38 : decode cX6_pass 38 = .ok (.iconst 0, 1) := by decide +kernel
theorem dX6_pass_39 : decode cX6_pass 39 = .ok (.sipush 999, 3) := by decide +kernel
theorem dX6_pass_42 : decode cX6_pass 42 = .ok (.invokevirtual 143, 3) := by decide +kernel
theorem dX6_pass_45 : decode cX6_pass 45 = .ok (.pop, 1) := by decide +kernel
theorem dX6_pass_46 : decode cX6_pass 46 = .ok (.aload_n 0, 1) := by decide +kernel
theorem dX6_pass_47 : decode cX6_pass 47 = .ok (.getfield 16, 3) := by decide +kernel
theorem dX6_pass_50 : decode cX6_pass 50 = .ok (.iconst 0, 1) := by decide +kernel
theorem dX6_pass_51 : decode cX6_pass 51 = .ok (.iaload, 1) := by decide +kernel
theorem dX6_pass_52 : decode cX6_pass 52 = .ok (.ireturn, 1) := by decide +kernel
theorem dX6_undo_0 : decode cX6_undo 0 = .ok (.aload_n 0, 1) := by decide +kernel
theorem dX6_undo_1 : decode cX6_undo 1 = .ok (.getfield 91, 3) := by decide +kernel
theorem dX6_undo_4 : decode cX6_undo 4 = .ok (.ifCond .ne 6, 3) := by decide +kernel
theorem dX6_undo_7 : decode cX6_undo 7 = .ok (.bipush (-3), 2) := by decide +kernel
theorem dX6_undo_9 : decode cX6_undo 9 = .ok (.ireturn, 1) := by decide +kernel
theorem dX6_undo_10 : decode cX6_undo 10 = .ok (.aload_n 0, 1) := by decide +kernel
theorem dX6_undo_11 : decode cX6_undo 11 = .ok (.dup, 1) := by decide +kernel
theorem dX6_undo_12 : decode cX6_undo 12 = .ok (.getfield 91, 3) := by decide +kernel
theorem dX6_undo_15 : decode cX6_undo 15 = .ok (.iconst 1, 1) := by decide +kernel
theorem dX6_undo_16 : decode cX6_undo 16 = .ok (.isub, 1) := by decide +kernel
theorem dX6_undo_17 : decode cX6_undo 17 = .ok (.putfield 91, 3) := by decide +kernel
theorem dX6_undo_20 : decode cX6_undo 20 = .ok (.aload_n 0, 1) := by decide +kernel
theorem dX6_undo_21 : decode cX6_undo 21 = .ok (.aload_n 0, 1) := by decide +kernel
theorem dX6_undo_22 : decode cX6_undo 22 = .ok (.getfield 133, 3) := by decide +kernel
theorem dX6_undo_25 : decode cX6_undo 25 = .ok (.bipush 15, 2) := by decide +kernel
theorem dX6_undo_27 : decode cX6_undo 27 = .ok (.iadd, 1) := by decide +kernel
theorem dX6_undo_28 : decode cX6_undo 28 = .ok (.bipush 16, 2) := by decide +kernel
theorem dX6_undo_30 : decode cX6_undo 30 = .ok (.irem, 1) := by decide +kernel
theorem dX6_undo_31 : decode cX6_undo 31 = .ok (.putfield 133, 3) := by decide +kernel
theorem dX6_undo_34 : decode cX6_undo 34 = .ok (.iconst 0, 1) := by decide +kernel
theorem dX6_undo_35 : decode cX6_undo 35 = .ok (.istore_n 1, 1) := by decide +kernel
theorem dX6_undo_36 : decode cX6_undo 36 = .ok (.iload_n 1, 1) := by decide +kernel
theorem dX6_undo_37 : decode cX6_undo 37 = .ok (.bipush 16, 2) := by decide +kernel
theorem dX6_undo_39 : decode cX6_undo 39 = .ok (.if_icmp .ge 52, 3) := by decide +kernel
theorem dX6_undo_42 : decode cX6_undo 42 = .ok (.aload_n 0, 1) := by decide +kernel
theorem dX6_undo_43 : decode cX6_undo 43 = .ok (.getfield 7, 3) := by decide +kernel
theorem dX6_undo_46 : decode cX6_undo 46 = .ok (.iload_n 1, 1) := by decide +kernel
theorem dX6_undo_47 : decode cX6_undo 47 = .ok (.aload_n 0, 1) := by decide +kernel
theorem dX6_undo_48 : decode cX6_undo 48 = .ok (.getfield 31, 3) := by decide +kernel
theorem dX6_undo_51 : decode cX6_undo 51 = .ok (.bipush 34, 2) := by decide +kernel
theorem dX6_undo_53 : decode cX6_undo 53 = .ok (.aload_n 0, 1) := by decide +kernel
theorem dX6_undo_54 : decode cX6_undo 54 = .ok (.getfield 133, 3) := by decide +kernel
theorem dX6_undo_57 : decode cX6_undo 57 = .ok (.imul, 1) := by decide +kernel
theorem dX6_undo_58 : decode cX6_undo 58 = .ok (.iload_n 1, 1) := by decide +kernel
theorem dX6_undo_59 : decode cX6_undo 59 = .ok (.iadd, 1) := by decide +kernel
theorem dX6_undo_60 : decode cX6_undo 60 = .ok (.iaload, 1) := by decide +kernel
theorem dX6_undo_61 : decode cX6_undo 61 = .ok (.iastore, 1) := by decide +kernel
theorem dX6_undo_62 : decode cX6_undo 62 = .ok (.aload_n 0, 1) := by decide +kernel
theorem dX6_undo_63 : decode cX6_undo 63 = .ok (.getfield 13, 3) := by decide +kernel
theorem dX6_undo_66 : decode cX6_undo 66 = .ok (.iload_n 1, 1) := by decide +kernel
theorem dX6_undo_67 : decode cX6_undo 67 = .ok (.aload_n 0, 1) := by decide +kernel
theorem dX6_undo_68 : decode cX6_undo 68 = .ok (.getfield 31, 3) := by decide +kernel
theorem dX6_undo_71 : decode cX6_undo 71 = .ok (.bipush 34, 2) := by decide +kernel
theorem dX6_undo_73 : decode cX6_undo 73 = .ok (.aload_n 0, 1) := by decide +kernel
theorem dX6_undo_74 : decode cX6_undo 74 = .ok (.getfield 133, 3) := by decide +kernel
theorem dX6_undo_77 : decode cX6_undo 77 = .ok (.imul, 1) := by decide +kernel
theorem dX6_undo_78 : decode cX6_undo 78 = .ok (.bipush 16, 2) := by decide +kernel
theorem dX6_undo_80 : decode cX6_undo 80 = .ok (.iadd, 1) := by decide +kernel
theorem dX6_undo_81 : decode cX6_undo 81 = .ok (.iload_n 1, 1) := by decide +kernel
theorem dX6_undo_82 : decode cX6_undo 82 = .ok (.iadd, 1) := by decide +kernel
theorem dX6_undo_83 : decode cX6_undo 83 = .ok (.iaload, 1) := by decide +kernel
theorem dX6_undo_84 : decode cX6_undo 84 = .ok (.iastore, 1) := by decide +kernel
theorem dX6_undo_85 : decode cX6_undo 85 = .ok (.iinc 1 1, 3) := by decide +kernel
theorem dX6_undo_88 : decode cX6_undo 88 = .ok (.goto (-52), 3) := by decide +kernel
theorem dX6_undo_91 : decode cX6_undo 91 = .ok (.aload_n 0, 1) := by decide +kernel
theorem dX6_undo_92 : decode cX6_undo 92 = .ok (.getfield 16, 3) := by decide +kernel
theorem dX6_undo_95 : decode cX6_undo 95 = .ok (.iconst 0, 1) := by decide +kernel
theorem dX6_undo_96 : decode cX6_undo 96 = .ok (.aload_n 0, 1) := by decide +kernel
theorem dX6_undo_97 : decode cX6_undo 97 = .ok (.getfield 31, 3) := by decide +kernel
theorem dX6_undo_100 : decode cX6_undo 100 = .ok (.bipush 34, 2) := by decide +kernel
theorem dX6_undo_102 : decode cX6_undo 102 = .ok (.aload_n 0, 1) := by decide +kernel
theorem dX6_undo_103 : decode cX6_undo 103 = .ok (.getfield 133, 3) := by decide +kernel
theorem dX6_undo_106 : decode cX6_undo 106 = .ok (.imul, 1) := by decide +kernel
theorem dX6_undo_107 : decode cX6_undo 107 = .ok (.bipush 32, 2) := by decide +kernel
theorem dX6_undo_109 : decode cX6_undo 109 = .ok (.iadd, 1) := by decide +kernel
theorem dX6_undo_110 : decode cX6_undo 110 = .ok (.iaload, 1) := by decide +kernel
theorem dX6_undo_111 : decode cX6_undo 111 = .ok (.iastore, 1) := by decide +kernel
theorem dX6_undo_112 : decode cX6_undo 112 = .ok (.aload_n 0, 1) := by decide +kernel
theorem dX6_undo_113 : decode cX6_undo 113 = .ok (.getfield 19, 3) := by decide +kernel
theorem dX6_undo_116 : decode cX6_undo 116 = .ok (.iconst 0, 1) := by decide +kernel
theorem dX6_undo_117 : decode cX6_undo 117 = .ok (.aload_n 0, 1) := by decide +kernel
theorem dX6_undo_118 : decode cX6_undo 118 = .ok (.getfield 31, 3) := by decide +kernel
theorem dX6_undo_121 : decode cX6_undo 121 = .ok (.bipush 34, 2) := by decide +kernel
theorem dX6_undo_123 : decode cX6_undo 123 = .ok (.aload_n 0, 1) := by decide +kernel
theorem dX6_undo_124 : decode cX6_undo 124 = .ok (.getfield 133, 3) := by decide +kernel
theorem dX6_undo_127 : decode cX6_undo 127 = .ok (.imul, 1) := by decide +kernel
theorem dX6_undo_128 : decode cX6_undo 128 = .ok (.bipush 33, 2) := by decide +kernel
theorem dX6_undo_130 : decode cX6_undo 130 = .ok (.iadd, 1) := by decide +kernel
theorem dX6_undo_131 : decode cX6_undo 131 = .ok (.iaload, 1) := by decide +kernel
theorem dX6_undo_132 : decode cX6_undo 132 = .ok (.iastore, 1) := by decide +kernel
theorem dX6_undo_133 : decode cX6_undo 133 = .ok (.aload_n 0, 1) := by decide +kernel
theorem dX6_undo_134 : decode cX6_undo 134 = .ok (.getfield 91, 3) := by decide +kernel
theorem dX6_undo_137 : decode cX6_undo 137 = .ok (.ireturn, 1) := by decide +kernel
theorem dX6_tenTo_0 : decode cX6_tenTo 0 = .ok (.iconst 1, 1) := by decide +kernel
theorem dX6_tenTo_1 : decode cX6_tenTo 1 = .ok (.istore_n 1, 1) := by decide +kernel
theorem dX6_tenTo_2 : decode cX6_tenTo 2 = .ok (.iconst 0, 1) := by decide +kernel
theorem dX6_tenTo_3 : decode cX6_tenTo 3 = .ok (.istore_n 2, 1) := by decide +kernel
theorem dX6_tenTo_4 : decode cX6_tenTo 4 = .ok (.iload_n 2, 1) := by decide +kernel
theorem dX6_tenTo_5 : decode cX6_tenTo 5 = .ok (.iload_n 0, 1) := by decide +kernel
theorem dX6_tenTo_6 : decode cX6_tenTo 6 = .ok (.if_icmp .ge 14, 3) := by decide +kernel
theorem dX6_tenTo_9 : decode cX6_tenTo 9 = .ok (.iload_n 1, 1) := by decide +kernel
theorem dX6_tenTo_10 : decode cX6_tenTo 10 = .ok (.bipush 10, 2) := by decide +kernel
theorem dX6_tenTo_12 : decode cX6_tenTo 12 = .ok (.imul, 1) := by decide +kernel
theorem dX6_tenTo_13 : decode cX6_tenTo 13 = .ok (.istore_n 1, 1) := by decide +kernel
theorem dX6_tenTo_14 : decode cX6_tenTo 14 = .ok (.iinc 2 1, 3) := by decide +kernel
theorem dX6_tenTo_17 : decode cX6_tenTo 17 = .ok (.goto (-13), 3) := by decide +kernel
theorem dX6_tenTo_20 : decode cX6_tenTo 20 = .ok (.iload_n 1, 1) := by decide +kernel
theorem dX6_tenTo_21 : decode cX6_tenTo 21 = .ok (.ireturn, 1) := by decide +kernel
theorem dX6_judge_0 : decode cX6_judge 0 = .ok (.iload_n 1, 1) := by decide +kernel
theorem dX6_judge_1 : decode cX6_judge 1 = .ok (.i2l, 1) := by decide +kernel
theorem dX6_judge_2 : decode cX6_judge 2 = .ok (.lconst 1, 1) := by decide +kernel
theorem dX6_judge_3 : decode cX6_judge 3 = .ok (.ldc2_w 146, 3) := by decide +kernel
theorem dX6_judge_6 : decode cX6_judge 6 = .ok (.invokestatic 56, 3) := by decide +kernel
theorem dX6_judge_9 : decode cX6_judge 9 = .ok (.ifCond .eq 21, 3) := by decide +kernel
theorem dX6_judge_12 : decode cX6_judge 12 = .ok (.iload_n 2, 1) := by decide +kernel
theorem dX6_judge_13 : decode cX6_judge 13 = .ok (.i2l, 1) := by decide +kernel
theorem dX6_judge_14 : decode cX6_judge 14 = .ok (.lconst 0, 1) := by decide +kernel
theorem dX6_judge_15 : decode cX6_judge 15 = .ok (.iconst 4, 1) := by decide +kernel
theorem dX6_judge_16 : decode cX6_judge 16 = .ok (.iload_n 1, 1) := by decide +kernel
theorem dX6_judge_17 : decode cX6_judge 17 = .ok (.imul, 1) := by decide +kernel
theorem dX6_judge_18 : decode cX6_judge 18 = .ok (.invokestatic 148, 3) := by decide +kernel
theorem dX6_judge_21 : decode cX6_judge 21 = .ok (.iconst 1, 1) := by decide +kernel
theorem dX6_judge_22 : decode cX6_judge 22 = .ok (.isub, 1) := by decide +kernel
theorem dX6_judge_23 : decode cX6_judge 23 = .ok (.i2l, 1) := by decide +kernel
theorem dX6_judge_24 : decode cX6_judge 24 = .ok (.invokestatic 56, 3) := by decide +kernel
theorem dX6_judge_27 : decode cX6_judge 27 = .ok (.ifCond .ne 6, 3) := by decide +kernel
theorem dX6_judge_30 : decode cX6_judge 30 = .ok (.bipush (-2), 2) := by decide +kernel
theorem dX6_judge_32 : decode cX6_judge 32 = .ok (.ireturn, 1) := by decide +kernel
theorem dX6_judge_33 : decode cX6_judge 33 = .ok (.iconst 0, 1) := by decide +kernel
theorem dX6_judge_34 : decode cX6_judge 34 = .ok (.istore_n 3, 1) := by decide +kernel
theorem dX6_judge_35 : decode cX6_judge 35 = .ok (.iload_n 3, 1) := by decide +kernel
theorem dX6_judge_36 : decode cX6_judge 36 = .ok (.iload_n 1, 1) := by decide +kernel
theorem dX6_judge_37 : decode cX6_judge 37 = .ok (.if_icmp .ge 94, 3) := by decide +kernel
theorem dX6_judge_40 : decode cX6_judge 40 = .ok (.iload_n 2, 1) := by decide +kernel
theorem dX6_judge_41 : decode cX6_judge 41 = .ok (.iconst 4, 1) := by decide +kernel
theorem dX6_judge_42 : decode cX6_judge 42 = .ok (.iload_n 1, 1) := by decide +kernel
theorem dX6_judge_43 : decode cX6_judge 43 = .ok (.iconst 1, 1) := by decide +kernel
theorem dX6_judge_44 : decode cX6_judge 44 = .ok (.isub, 1) := by decide +kernel
theorem dX6_judge_45 : decode cX6_judge 45 = .ok (.iload_n 3, 1) := by decide +kernel
theorem dX6_judge_46 : decode cX6_judge 46 = .ok (.isub, 1) := by decide +kernel
theorem dX6_judge_47 : decode cX6_judge 47 = .ok (.imul, 1) := by decide +kernel
theorem dX6_judge_48 : decode cX6_judge 48 = .ok (.invokestatic 148, 3) := by decide +kernel
theorem dX6_judge_51 : decode cX6_judge 51 = .ok (.idiv, 1) := by decide +kernel
theorem dX6_judge_52 : decode cX6_judge 52 = .ok (.sipush 10000, 3) := by decide +kernel
theorem dX6_judge_55 : decode cX6_judge 55 = .ok (.irem, 1) := by decide +kernel
theorem dX6_judge_56 : decode cX6_judge 56 = .ok (.istore 4, 2) := by decide +kernel
theorem dX6_judge_58 : decode cX6_judge 58 = .ok (.aload_n 0, 1) := by decide +kernel
theorem dX6_judge_59 : decode cX6_judge 59 = .ok (.iload 4, 2) := by decide +kernel
theorem dX6_judge_61 : decode cX6_judge 61 = .ok (.bipush 100, 2) := by decide +kernel
theorem dX6_judge_63 : decode cX6_judge 63 = .ok (.idiv, 1) := by decide +kernel
theorem dX6_judge_64 : decode cX6_judge 64 = .ok (.invokevirtual 94, 3) := by decide +kernel
theorem dX6_judge_67 : decode cX6_judge 67 = .ok (.ifCond .eq 33, 3) := by decide +kernel
theorem dX6_judge_70 : decode cX6_judge 70 = .ok (.aload_n 0, 1) := by decide +kernel
theorem dX6_judge_71 : decode cX6_judge 71 = .ok (.iload 4, 2) := by decide +kernel
theorem dX6_judge_73 : decode cX6_judge 73 = .ok (.bipush 100, 2) := by decide +kernel
theorem dX6_judge_75 : decode cX6_judge 75 = .ok (.irem, 1) := by decide +kernel
theorem dX6_judge_76 : decode cX6_judge 76 = .ok (.invokevirtual 94, 3) := by decide +kernel
theorem dX6_judge_79 : decode cX6_judge 79 = .ok (.ifCond .eq 21, 3) := by decide +kernel
theorem dX6_judge_82 : decode cX6_judge 82 = .ok (.aload_n 0, 1) := by decide +kernel
theorem dX6_judge_83 : decode cX6_judge 83 = .ok (.iload_n 3, 1) := by decide +kernel
theorem dX6_judge_84 : decode cX6_judge 84 = .ok (.iload 4, 2) := by decide +kernel
theorem dX6_judge_86 : decode cX6_judge 86 = .ok (.bipush 100, 2) := by decide +kernel
theorem dX6_judge_88 : decode cX6_judge 88 = .ok (.idiv, 1) := by decide +kernel
theorem dX6_judge_89 : decode cX6_judge 89 = .ok (.iload 4, 2) := by decide +kernel
theorem dX6_judge_91 : decode cX6_judge 91 = .ok (.bipush 100, 2) := by decide +kernel
theorem dX6_judge_93 : decode cX6_judge 93 = .ok (.irem, 1) := by decide +kernel
theorem dX6_judge_94 : decode cX6_judge 94 = .ok (.invokevirtual 136, 3) := by decide +kernel
theorem dX6_judge_97 : decode cX6_judge 97 = .ok (.ifCond .ne 5, 3) := by decide +kernel
theorem dX6_judge_100 : decode cX6_judge 100 = .ok (.iload_n 3, 1) := by decide +kernel
theorem dX6_judge_101 : decode cX6_judge 101 = .ok (.ireturn, 1) := by decide +kernel
theorem dX6_judge_102 : decode cX6_judge 102 = .ok (.aload_n 0, 1) := by decide +kernel
theorem dX6_judge_103 : decode cX6_judge 103 = .ok (.iload_n 3, 1) := by decide +kernel
theorem dX6_judge_104 : decode cX6_judge 104 = .ok (.iload_n 3, 1) := by decide +kernel
theorem dX6_judge_105 : decode cX6_judge 105 = .ok (.iconst 1, 1) := by decide +kernel
theorem dX6_judge_106 : decode cX6_judge 106 = .ok (.iadd, 1) := by decide +kernel
theorem dX6_judge_107 : decode cX6_judge 107 = .ok (.bipush 16, 2) := by decide +kernel
theorem dX6_judge_109 : decode cX6_judge 109 = .ok (.iload 4, 2) := by decide +kernel
theorem dX6_judge_111 : decode cX6_judge 111 = .ok (.bipush 100, 2) := by decide +kernel
theorem dX6_judge_113 : decode cX6_judge 113 = .ok (.idiv, 1) := by decide +kernel
theorem dX6_judge_114 : decode cX6_judge 114 = .ok (.imul, 1) := by decide +kernel
theorem dX6_judge_115 : decode cX6_judge 115 = .ok (.iload 4, 2) := by decide +kernel
theorem dX6_judge_117 : decode cX6_judge 117 = .ok (.bipush 100, 2) := by decide +kernel
theorem dX6_judge_119 : decode cX6_judge 119 = .ok (.irem, 1) := by decide +kernel
theorem dX6_judge_120 : decode cX6_judge 120 = .ok (.iadd, 1) := by decide +kernel
theorem dX6_judge_121 : decode cX6_judge 121 = .ok (.invokevirtual 143, 3) := by decide +kernel
theorem dX6_judge_124 : decode cX6_judge 124 = .ok (.pop, 1) := by decide +kernel
theorem dX6_judge_125 : decode cX6_judge 125 = .ok (.iinc 3 1, 3) := by decide +kernel
theorem dX6_judge_128 : decode cX6_judge 128 = .ok (.goto (-93), 3) := by decide +kernel
theorem dX6_judge_131 : decode cX6_judge 131 = .ok (.bipush (-9), 2) := by decide +kernel
theorem dX6_judge_133 : decode cX6_judge 133 = .ok (.ireturn, 1) := by decide +kernel
theorem dX6_winsNow_0 : decode cX6_winsNow 0 = .ok (.aload_n 0, 1) := by decide +kernel
theorem dX6_winsNow_1 : decode cX6_winsNow 1 = .ok (.iload_n 1, 1) := by decide +kernel
theorem dX6_winsNow_2 : decode cX6_winsNow 2 = .ok (.invokevirtual 130, 3) := by decide +kernel
theorem dX6_winsNow_5 : decode cX6_winsNow 5 = .ok (.istore_n 2, 1) := by decide +kernel
theorem dX6_winsNow_6 : decode cX6_winsNow 6 = .ok (.iconst 0, 1) := by decide +kernel
theorem dX6_winsNow_7 : decode cX6_winsNow 7 = .ok (.istore_n 3, 1) := by decide +kernel
theorem dX6_winsNow_8 : decode cX6_winsNow 8 = .ok (.iconst 0, 1) := by decide +kernel
theorem dX6_winsNow_9 : decode cX6_winsNow 9 = .ok (.istore 4, 2) := by decide +kernel
theorem dX6_winsNow_11 : decode cX6_winsNow 11 = .ok (.iload 4, 2) := by decide +kernel
theorem dX6_winsNow_13 : decode cX6_winsNow 13 = .ok (.iload_n 2, 1) := by decide +kernel
theorem dX6_winsNow_14 : decode cX6_winsNow 14 = .ok (.if_icmp .ge 60, 3) := by decide +kernel
theorem dX6_winsNow_17 : decode cX6_winsNow 17 = .ok (.iload_n 3, 1) := by decide +kernel
theorem dX6_winsNow_18 : decode cX6_winsNow 18 = .ok (.ifCond .ne 56, 3) := by decide +kernel
theorem dX6_winsNow_21 : decode cX6_winsNow 21 = .ok (.aload_n 0, 1) := by decide +kernel
theorem dX6_winsNow_22 : decode cX6_winsNow 22 = .ok (.iload_n 1, 1) := by decide +kernel
theorem dX6_winsNow_23 : decode cX6_winsNow 23 = .ok (.iload_n 1, 1) := by decide +kernel
theorem dX6_winsNow_24 : decode cX6_winsNow 24 = .ok (.iconst 1, 1) := by decide +kernel
theorem dX6_winsNow_25 : decode cX6_winsNow 25 = .ok (.iadd, 1) := by decide +kernel
theorem dX6_winsNow_26 : decode cX6_winsNow 26 = .ok (.aload_n 0, 1) := by decide +kernel
theorem dX6_winsNow_27 : decode cX6_winsNow 27 = .ok (.getfield 25, 3) := by decide +kernel
theorem dX6_winsNow_30 : decode cX6_winsNow 30 = .ok (.sipush 256, 3) := by decide +kernel
theorem dX6_winsNow_33 : decode cX6_winsNow 33 = .ok (.iload_n 1, 1) := by decide +kernel
theorem dX6_winsNow_34 : decode cX6_winsNow 34 = .ok (.imul, 1) := by decide +kernel
theorem dX6_winsNow_35 : decode cX6_winsNow 35 = .ok (.iload 4, 2) := by decide +kernel
theorem dX6_winsNow_37 : decode cX6_winsNow 37 = .ok (.iadd, 1) := by decide +kernel
theorem dX6_winsNow_38 : decode cX6_winsNow 38 = .ok (.iaload, 1) := by decide +kernel
theorem dX6_winsNow_39 : decode cX6_winsNow 39 = .ok (.invokevirtual 143, 3) := by decide +kernel
theorem dX6_winsNow_42 : decode cX6_winsNow 42 = .ok (.pop, 1) := by decide +kernel
theorem dX6_winsNow_43 : decode cX6_winsNow 43 = .ok (.aload_n 0, 1) := by decide +kernel
theorem dX6_winsNow_44 : decode cX6_winsNow 44 = .ok (.getfield 19, 3) := by decide +kernel
theorem dX6_winsNow_47 : decode cX6_winsNow 47 = .ok (.iload_n 1, 1) := by decide +kernel
theorem dX6_winsNow_48 : decode cX6_winsNow 48 = .ok (.iconst 1, 1) := by decide +kernel
theorem dX6_winsNow_49 : decode cX6_winsNow 49 = .ok (.iadd, 1) := by decide +kernel
theorem dX6_winsNow_50 : decode cX6_winsNow 50 = .ok (.iaload, 1) := by decide +kernel
theorem dX6_winsNow_51 : decode cX6_winsNow 51 = .ok (.aload_n 0, 1) := by decide +kernel
theorem dX6_winsNow_52 : decode cX6_winsNow 52 = .ok (.getfield 16, 3) := by decide +kernel
theorem dX6_winsNow_55 : decode cX6_winsNow 55 = .ok (.iload_n 1, 1) := by decide +kernel
theorem dX6_winsNow_56 : decode cX6_winsNow 56 = .ok (.iconst 1, 1) := by decide +kernel
theorem dX6_winsNow_57 : decode cX6_winsNow 57 = .ok (.iadd, 1) := by decide +kernel
theorem dX6_winsNow_58 : decode cX6_winsNow 58 = .ok (.iaload, 1) := by decide +kernel
theorem dX6_winsNow_59 : decode cX6_winsNow 59 = .ok (.if_icmp .ne 7, 3) := by decide +kernel
theorem dX6_winsNow_62 : decode cX6_winsNow 62 = .ok (.iconst 1, 1) := by decide +kernel
theorem dX6_winsNow_63 : decode cX6_winsNow 63 = .ok (.goto 4, 3) := by decide +kernel
theorem dX6_winsNow_66 : decode cX6_winsNow 66 = .ok (.iconst 0, 1) := by decide +kernel
theorem dX6_winsNow_67 : decode cX6_winsNow 67 = .ok (.istore_n 3, 1) := by decide +kernel
theorem dX6_winsNow_68 : decode cX6_winsNow 68 = .ok (.iinc 4 1, 3) := by decide +kernel
theorem dX6_winsNow_71 : decode cX6_winsNow 71 = .ok (.goto (-60), 3) := by decide +kernel
theorem dX6_winsNow_74 : decode cX6_winsNow 74 = .ok (.iload_n 3, 1) := by decide +kernel
theorem dX6_winsNow_75 : decode cX6_winsNow 75 = .ok (.ireturn, 1) := by decide +kernel
theorem dX6_isDone_0 : decode cX6_isDone 0 = .ok (.aload_n 0, 1) := by decide +kernel
theorem dX6_isDone_1 : decode cX6_isDone 1 = .ok (.iload_n 1, 1) := by decide +kernel
theorem dX6_isDone_2 : decode cX6_isDone 2 = .ok (.invokevirtual 130, 3) := by decide +kernel
theorem dX6_isDone_5 : decode cX6_isDone 5 = .ok (.istore_n 2, 1) := by decide +kernel
theorem dX6_isDone_6 : decode cX6_isDone 6 = .ok (.iconst 1, 1) := by decide +kernel
theorem dX6_isDone_7 : decode cX6_isDone 7 = .ok (.istore_n 3, 1) := by decide +kernel
theorem dX6_isDone_8 : decode cX6_isDone 8 = .ok (.iconst 0, 1) := by decide +kernel
theorem dX6_isDone_9 : decode cX6_isDone 9 = .ok (.istore 4, 2) := by decide +kernel
theorem dX6_isDone_11 : decode cX6_isDone 11 = .ok (.iload 4, 2) := by decide +kernel
theorem dX6_isDone_13 : decode cX6_isDone 13 = .ok (.iload_n 2, 1) := by decide +kernel
theorem dX6_isDone_14 : decode cX6_isDone 14 = .ok (.if_icmp .ge 64, 3) := by decide +kernel
theorem dX6_isDone_17 : decode cX6_isDone 17 = .ok (.iload_n 3, 1) := by decide +kernel
theorem dX6_isDone_18 : decode cX6_isDone 18 = .ok (.ifCond .eq 60, 3) := by decide +kernel
theorem dX6_isDone_21 : decode cX6_isDone 21 = .ok (.aload_n 0, 1) := by decide +kernel
theorem dX6_isDone_22 : decode cX6_isDone 22 = .ok (.iload_n 1, 1) := by decide +kernel
theorem dX6_isDone_23 : decode cX6_isDone 23 = .ok (.iload_n 1, 1) := by decide +kernel
theorem dX6_isDone_24 : decode cX6_isDone 24 = .ok (.iconst 1, 1) := by decide +kernel
theorem dX6_isDone_25 : decode cX6_isDone 25 = .ok (.iadd, 1) := by decide +kernel
theorem dX6_isDone_26 : decode cX6_isDone 26 = .ok (.aload_n 0, 1) := by decide +kernel
theorem dX6_isDone_27 : decode cX6_isDone 27 = .ok (.getfield 25, 3) := by decide +kernel
theorem dX6_isDone_30 : decode cX6_isDone 30 = .ok (.sipush 256, 3) := by decide +kernel
theorem dX6_isDone_33 : decode cX6_isDone 33 = .ok (.iload_n 1, 1) := by decide +kernel
theorem dX6_isDone_34 : decode cX6_isDone 34 = .ok (.imul, 1) := by decide +kernel
theorem dX6_isDone_35 : decode cX6_isDone 35 = .ok (.iload 4, 2) := by decide +kernel
theorem dX6_isDone_37 : decode cX6_isDone 37 = .ok (.iadd, 1) := by decide +kernel
theorem dX6_isDone_38 : decode cX6_isDone 38 = .ok (.iaload, 1) := by decide +kernel
theorem dX6_isDone_39 : decode cX6_isDone 39 = .ok (.invokevirtual 143, 3) := by decide +kernel
theorem dX6_isDone_42 : decode cX6_isDone 42 = .ok (.pop, 1) := by decide +kernel
theorem dX6_isDone_43 : decode cX6_isDone 43 = .ok (.aload_n 0, 1) := by decide +kernel
theorem dX6_isDone_44 : decode cX6_isDone 44 = .ok (.getfield 19, 3) := by decide +kernel
theorem dX6_isDone_47 : decode cX6_isDone 47 = .ok (.iload_n 1, 1) := by decide +kernel
theorem dX6_isDone_48 : decode cX6_isDone 48 = .ok (.iconst 1, 1) := by decide +kernel
theorem dX6_isDone_49 : decode cX6_isDone 49 = .ok (.iadd, 1) := by decide +kernel
theorem dX6_isDone_50 : decode cX6_isDone 50 = .ok (.iaload, 1) := by decide +kernel
theorem dX6_isDone_51 : decode cX6_isDone 51 = .ok (.bipush (-9), 2) := by decide +kernel
theorem dX6_isDone_53 : decode cX6_isDone 53 = .ok (.if_icmp .ne 17, 3) := by decide +kernel
theorem dX6_isDone_56 : decode cX6_isDone 56 = .ok (.aload_n 0, 1) := by decide +kernel
theorem dX6_isDone_57 : decode cX6_isDone 57 = .ok (.iload_n 1, 1) := by decide +kernel
theorem dX6_isDone_58 : decode cX6_isDone 58 = .ok (.iconst 1, 1) := by decide +kernel
theorem dX6_isDone_59 : decode cX6_isDone 59 = .ok (.iadd, 1) := by decide +kernel
theorem dX6_isDone_60 : decode cX6_isDone 60 = .ok (.invokevirtual 151, 3) := by decide +kernel
theorem dX6_isDone_63 : decode cX6_isDone 63 = .ok (.ifCond .eq 7, 3) := by decide +kernel
theorem dX6_isDone_66 : decode cX6_isDone 66 = .ok (.iconst 1, 1) := by decide +kernel
theorem dX6_isDone_67 : decode cX6_isDone 67 = .ok (.goto 4, 3) := by decide +kernel
theorem dX6_isDone_70 : decode cX6_isDone 70 = .ok (.iconst 0, 1) := by decide +kernel
theorem dX6_isDone_71 : decode cX6_isDone 71 = .ok (.istore_n 3, 1) := by decide +kernel
theorem dX6_isDone_72 : decode cX6_isDone 72 = .ok (.iinc 4 1, 3) := by decide +kernel
theorem dX6_isDone_75 : decode cX6_isDone 75 = .ok (.goto (-64), 3) := by decide +kernel
theorem dX6_isDone_78 : decode cX6_isDone 78 = .ok (.iload_n 3, 1) := by decide +kernel
theorem dX6_isDone_79 : decode cX6_isDone 79 = .ok (.ireturn, 1) := by decide +kernel
theorem dX6_isKey_0 : decode cX6_isKey 0 = .ok (.aload_n 0, 1) := by decide +kernel
theorem dX6_isKey_1 : decode cX6_isKey 1 = .ok (.iconst 0, 1) := by decide +kernel
theorem dX6_isKey_2 : decode cX6_isKey 2 = .ok (.iconst 1, 1) := by decide +kernel
theorem dX6_isKey_3 : decode cX6_isKey 3 = .ok (.aload_n 0, 1) := by decide +kernel
theorem dX6_isKey_4 : decode cX6_isKey 4 = .ok (.getfield 25, 3) := by decide +kernel
theorem dX6_isKey_7 : decode cX6_isKey 7 = .ok (.iload_n 1, 1) := by decide +kernel
theorem dX6_isKey_8 : decode cX6_isKey 8 = .ok (.iaload, 1) := by decide +kernel
theorem dX6_isKey_9 : decode cX6_isKey 9 = .ok (.invokevirtual 143, 3) := by decide +kernel
theorem dX6_isKey_12 : decode cX6_isKey 12 = .ok (.pop, 1) := by decide +kernel
theorem dX6_isKey_13 : decode cX6_isKey 13 = .ok (.aload_n 0, 1) := by decide +kernel
theorem dX6_isKey_14 : decode cX6_isKey 14 = .ok (.getfield 19, 3) := by decide +kernel
theorem dX6_isKey_17 : decode cX6_isKey 17 = .ok (.iconst 1, 1) := by decide +kernel
theorem dX6_isKey_18 : decode cX6_isKey 18 = .ok (.iaload, 1) := by decide +kernel
theorem dX6_isKey_19 : decode cX6_isKey 19 = .ok (.aload_n 0, 1) := by decide +kernel
theorem dX6_isKey_20 : decode cX6_isKey 20 = .ok (.getfield 16, 3) := by decide +kernel
theorem dX6_isKey_23 : decode cX6_isKey 23 = .ok (.iconst 1, 1) := by decide +kernel
theorem dX6_isKey_24 : decode cX6_isKey 24 = .ok (.iaload, 1) := by decide +kernel
theorem dX6_isKey_25 : decode cX6_isKey 25 = .ok (.if_icmp .eq 27, 3) := by decide +kernel
theorem dX6_isKey_28 : decode cX6_isKey 28 = .ok (.iload_n 2, 1) := by decide +kernel
theorem dX6_isKey_29 : decode cX6_isKey 29 = .ok (.iconst 2, 1) := by decide +kernel
theorem dX6_isKey_30 : decode cX6_isKey 30 = .ok (.if_icmp .le 26, 3) := by decide +kernel
theorem dX6_isKey_33 : decode cX6_isKey 33 = .ok (.aload_n 0, 1) := by decide +kernel
theorem dX6_isKey_34 : decode cX6_isKey 34 = .ok (.getfield 19, 3) := by decide +kernel
theorem dX6_isKey_37 : decode cX6_isKey 37 = .ok (.iconst 1, 1) := by decide +kernel
theorem dX6_isKey_38 : decode cX6_isKey 38 = .ok (.iaload, 1) := by decide +kernel
theorem dX6_isKey_39 : decode cX6_isKey 39 = .ok (.bipush (-9), 2) := by decide +kernel
theorem dX6_isKey_41 : decode cX6_isKey 41 = .ok (.if_icmp .ne 15, 3) := by decide +kernel
theorem dX6_isKey_44 : decode cX6_isKey 44 = .ok (.aload_n 0, 1) := by decide +kernel
theorem dX6_isKey_45 : decode cX6_isKey 45 = .ok (.iconst 1, 1) := by decide +kernel
theorem dX6_isKey_46 : decode cX6_isKey 46 = .ok (.invokevirtual 154, 3) := by decide +kernel
theorem dX6_isKey_49 : decode cX6_isKey 49 = .ok (.ifCond .eq 7, 3) := by decide +kernel
theorem dX6_isKey_52 : decode cX6_isKey 52 = .ok (.iconst 1, 1) := by decide +kernel
theorem dX6_isKey_53 : decode cX6_isKey 53 = .ok (.goto 4, 3) := by decide +kernel
theorem dX6_isKey_56 : decode cX6_isKey 56 = .ok (.iconst 0, 1) := by decide +kernel
theorem dX6_isKey_57 : decode cX6_isKey 57 = .ok (.ireturn, 1) := by decide +kernel
theorem dX6_layKeys_0 : decode cX6_layKeys 0 = .ok (.iconst 0, 1) := by decide +kernel
theorem dX6_layKeys_1 : decode cX6_layKeys 1 = .ok (.istore_n 2, 1) := by decide +kernel
theorem dX6_layKeys_2 : decode cX6_layKeys 2 = .ok (.aload_n 0, 1) := by decide +kernel
theorem dX6_layKeys_3 : decode cX6_layKeys 3 = .ok (.iconst 0, 1) := by decide +kernel
theorem dX6_layKeys_4 : decode cX6_layKeys 4 = .ok (.invokevirtual 130, 3) := by decide +kernel
theorem dX6_layKeys_7 : decode cX6_layKeys 7 = .ok (.istore_n 3, 1) := by decide +kernel
theorem dX6_layKeys_8 : decode cX6_layKeys 8 = .ok (.iconst 0, 1) := by decide +kernel
theorem dX6_layKeys_9 : decode cX6_layKeys 9 = .ok (.istore 4, 2) := by decide +kernel
theorem dX6_layKeys_11 : decode cX6_layKeys 11 = .ok (.iload 4, 2) := by decide +kernel
theorem dX6_layKeys_13 : decode cX6_layKeys 13 = .ok (.iload_n 3, 1) := by decide +kernel
theorem dX6_layKeys_14 : decode cX6_layKeys 14 = .ok (.if_icmp .ge 35, 3) := by decide +kernel
theorem dX6_layKeys_17 : decode cX6_layKeys 17 = .ok (.aload_n 0, 1) := by decide +kernel
theorem dX6_layKeys_18 : decode cX6_layKeys 18 = .ok (.iload 4, 2) := by decide +kernel
theorem dX6_layKeys_20 : decode cX6_layKeys 20 = .ok (.iload_n 1, 1) := by decide +kernel
theorem dX6_layKeys_21 : decode cX6_layKeys 21 = .ok (.invokevirtual 157, 3) := by decide +kernel
theorem dX6_layKeys_24 : decode cX6_layKeys 24 = .ok (.ifCond .eq 19, 3) := by decide +kernel
theorem dX6_layKeys_27 : decode cX6_layKeys 27 = .ok (.aload_n 0, 1) := by decide +kernel
theorem dX6_layKeys_28 : decode cX6_layKeys 28 = .ok (.getfield 34, 3) := by decide +kernel
theorem dX6_layKeys_31 : decode cX6_layKeys 31 = .ok (.iload_n 2, 1) := by decide +kernel
theorem dX6_layKeys_32 : decode cX6_layKeys 32 = .ok (.aload_n 0, 1) := by decide +kernel
theorem dX6_layKeys_33 : decode cX6_layKeys 33 = .ok (.getfield 25, 3) := by decide +kernel
theorem dX6_layKeys_36 : decode cX6_layKeys 36 = .ok (.iload 4, 2) := by decide +kernel
theorem dX6_layKeys_38 : decode cX6_layKeys 38 = .ok (.iaload, 1) := by decide +kernel
theorem dX6_layKeys_39 : decode cX6_layKeys 39 = .ok (.iastore, 1) := by decide +kernel
theorem dX6_layKeys_40 : decode cX6_layKeys 40 = .ok (.iinc 2 1, 3) := by decide +kernel
theorem dX6_layKeys_43 : decode cX6_layKeys 43 = .ok (.iinc 4 1, 3) := by decide +kernel
theorem dX6_layKeys_46 : decode cX6_layKeys 46 = .ok (.goto (-35), 3) := by decide +kernel
theorem dX6_layKeys_49 : decode cX6_layKeys 49 = .ok (.iload_n 2, 1) := by decide +kernel
theorem dX6_layKeys_50 : decode cX6_layKeys 50 = .ok (.ireturn, 1) := by decide +kernel
theorem dX6_wins_0 : decode cX6_wins 0 = .ok (.iload_n 1, 1) := by decide +kernel
theorem dX6_wins_1 : decode cX6_wins 1 = .ok (.i2l, 1) := by decide +kernel
theorem dX6_wins_2 : decode cX6_wins 2 = .ok (.lconst 1, 1) := by decide +kernel
theorem dX6_wins_3 : decode cX6_wins 3 = .ok (.ldc2_w 160, 3) := by decide +kernel
theorem dX6_wins_6 : decode cX6_wins 6 = .ok (.invokestatic 56, 3) := by decide +kernel
theorem dX6_wins_9 : decode cX6_wins 9 = .ok (.ifCond .ne 6, 3) := by decide +kernel
theorem dX6_wins_12 : decode cX6_wins 12 = .ok (.bipush (-2), 2) := by decide +kernel
theorem dX6_wins_14 : decode cX6_wins 14 = .ok (.ireturn, 1) := by decide +kernel
theorem dX6_wins_15 : decode cX6_wins 15 = .ok (.aload_n 0, 1) := by decide +kernel
theorem dX6_wins_16 : decode cX6_wins 16 = .ok (.getfield 19, 3) := by decide +kernel
theorem dX6_wins_19 : decode cX6_wins 19 = .ok (.iconst 0, 1) := by decide +kernel
theorem dX6_wins_20 : decode cX6_wins 20 = .ok (.iaload, 1) := by decide +kernel
theorem dX6_wins_21 : decode cX6_wins 21 = .ok (.bipush (-9), 2) := by decide +kernel
theorem dX6_wins_23 : decode cX6_wins 23 = .ok (.if_icmp .eq 8, 3) := by decide +kernel
theorem dX6_wins_26 : decode cX6_wins 26 = .ok (.bipush (-3), 2) := by decide +kernel
theorem dX6_wins_28 : decode cX6_wins 28 = .ok (.goto 16, 3) := by decide +kernel
theorem dX6_wins_31 : decode cX6_wins 31 = .ok (.aload_n 0, 1) := by decide +kernel
theorem dX6_wins_32 : decode cX6_wins 32 = .ok (.iload_n 1, 1) := by decide +kernel
theorem dX6_wins_33 : decode cX6_wins 33 = .ok (.invokevirtual 162, 3) := by decide +kernel
theorem dX6_wins_36 : decode cX6_wins 36 = .ok (.ifCond .le 7, 3) := by decide +kernel
theorem dX6_wins_39 : decode cX6_wins 39 = .ok (.iconst 1, 1) := by decide +kernel
theorem dX6_wins_40 : decode cX6_wins 40 = .ok (.goto 4, 3) := by decide +kernel
theorem dX6_wins_43 : decode cX6_wins 43 = .ok (.iconst 0, 1) := by decide +kernel
theorem dX6_wins_44 : decode cX6_wins 44 = .ok (.ireturn, 1) := by decide +kernel
theorem dX6_keys_0 : decode cX6_keys 0 = .ok (.iload_n 1, 1) := by decide +kernel
theorem dX6_keys_1 : decode cX6_keys 1 = .ok (.i2l, 1) := by decide +kernel
theorem dX6_keys_2 : decode cX6_keys 2 = .ok (.lconst 1, 1) := by decide +kernel
theorem dX6_keys_3 : decode cX6_keys 3 = .ok (.ldc2_w 160, 3) := by decide +kernel
theorem dX6_keys_6 : decode cX6_keys 6 = .ok (.invokestatic 56, 3) := by decide +kernel
theorem dX6_keys_9 : decode cX6_keys 9 = .ok (.ifCond .ne 6, 3) := by decide +kernel
theorem dX6_keys_12 : decode cX6_keys 12 = .ok (.bipush (-2), 2) := by decide +kernel
theorem dX6_keys_14 : decode cX6_keys 14 = .ok (.ireturn, 1) := by decide +kernel
theorem dX6_keys_15 : decode cX6_keys 15 = .ok (.aload_n 0, 1) := by decide +kernel
theorem dX6_keys_16 : decode cX6_keys 16 = .ok (.getfield 19, 3) := by decide +kernel
theorem dX6_keys_19 : decode cX6_keys 19 = .ok (.iconst 0, 1) := by decide +kernel
theorem dX6_keys_20 : decode cX6_keys 20 = .ok (.iaload, 1) := by decide +kernel
theorem dX6_keys_21 : decode cX6_keys 21 = .ok (.bipush (-9), 2) := by decide +kernel
theorem dX6_keys_23 : decode cX6_keys 23 = .ok (.if_icmp .eq 8, 3) := by decide +kernel
theorem dX6_keys_26 : decode cX6_keys 26 = .ok (.bipush (-3), 2) := by decide +kernel
theorem dX6_keys_28 : decode cX6_keys 28 = .ok (.goto 8, 3) := by decide +kernel
theorem dX6_keys_31 : decode cX6_keys 31 = .ok (.aload_n 0, 1) := by decide +kernel
theorem dX6_keys_32 : decode cX6_keys 32 = .ok (.iload_n 1, 1) := by decide +kernel
theorem dX6_keys_33 : decode cX6_keys 33 = .ok (.invokevirtual 162, 3) := by decide +kernel
theorem dX6_keys_36 : decode cX6_keys 36 = .ok (.ireturn, 1) := by decide +kernel
theorem dX6_keyAt_0 : decode cX6_keyAt 0 = .ok (.iload_n 1, 1) := by decide +kernel
theorem dX6_keyAt_1 : decode cX6_keyAt 1 = .ok (.i2l, 1) := by decide +kernel
theorem dX6_keyAt_2 : decode cX6_keyAt 2 = .ok (.lconst 1, 1) := by decide +kernel
theorem dX6_keyAt_3 : decode cX6_keyAt 3 = .ok (.ldc2_w 160, 3) := by decide +kernel
theorem dX6_keyAt_6 : decode cX6_keyAt 6 = .ok (.invokestatic 56, 3) := by decide +kernel
theorem dX6_keyAt_9 : decode cX6_keyAt 9 = .ok (.ifCond .ne 6, 3) := by decide +kernel
theorem dX6_keyAt_12 : decode cX6_keyAt 12 = .ok (.bipush (-2), 2) := by decide +kernel
theorem dX6_keyAt_14 : decode cX6_keyAt 14 = .ok (.ireturn, 1) := by decide +kernel
theorem dX6_keyAt_15 : decode cX6_keyAt 15 = .ok (.aload_n 0, 1) := by decide +kernel
theorem dX6_keyAt_16 : decode cX6_keyAt 16 = .ok (.getfield 19, 3) := by decide +kernel
theorem dX6_keyAt_19 : decode cX6_keyAt 19 = .ok (.iconst 0, 1) := by decide +kernel
theorem dX6_keyAt_20 : decode cX6_keyAt 20 = .ok (.iaload, 1) := by decide +kernel
theorem dX6_keyAt_21 : decode cX6_keyAt 21 = .ok (.bipush (-9), 2) := by decide +kernel
theorem dX6_keyAt_23 : decode cX6_keyAt 23 = .ok (.if_icmp .eq 6, 3) := by decide +kernel
theorem dX6_keyAt_26 : decode cX6_keyAt 26 = .ok (.bipush (-3), 2) := by decide +kernel
theorem dX6_keyAt_28 : decode cX6_keyAt 28 = .ok (.ireturn, 1) := by decide +kernel
theorem dX6_keyAt_29 : decode cX6_keyAt 29 = .ok (.aload_n 0, 1) := by decide +kernel
theorem dX6_keyAt_30 : decode cX6_keyAt 30 = .ok (.iload_n 1, 1) := by decide +kernel
theorem dX6_keyAt_31 : decode cX6_keyAt 31 = .ok (.invokevirtual 162, 3) := by decide +kernel
theorem dX6_keyAt_34 : decode cX6_keyAt 34 = .ok (.istore_n 3, 1) := by decide +kernel
theorem dX6_keyAt_35 : decode cX6_keyAt 35 = .ok (.iload_n 2, 1) := by decide +kernel
theorem dX6_keyAt_36 : decode cX6_keyAt 36 = .ok (.i2l, 1) := by decide +kernel
theorem dX6_keyAt_37 : decode cX6_keyAt 37 = .ok (.lconst 0, 1) := by decide +kernel
theorem dX6_keyAt_38 : decode cX6_keyAt 38 = .ok (.iload_n 3, 1) := by decide +kernel
theorem dX6_keyAt_39 : decode cX6_keyAt 39 = .ok (.iconst 1, 1) := by decide +kernel
theorem dX6_keyAt_40 : decode cX6_keyAt 40 = .ok (.isub, 1) := by decide +kernel
theorem dX6_keyAt_41 : decode cX6_keyAt 41 = .ok (.i2l, 1) := by decide +kernel
theorem dX6_keyAt_42 : decode cX6_keyAt 42 = .ok (.invokestatic 56, 3) := by decide +kernel
theorem dX6_keyAt_45 : decode cX6_keyAt 45 = .ok (.ifCond .eq 15, 3) := by decide +kernel
theorem dX6_keyAt_48 : decode cX6_keyAt 48 = .ok (.aload_n 0, 1) := by decide +kernel
theorem dX6_keyAt_49 : decode cX6_keyAt 49 = .ok (.getfield 34, 3) := by decide +kernel
theorem dX6_keyAt_52 : decode cX6_keyAt 52 = .ok (.iload_n 2, 1) := by decide +kernel
theorem dX6_keyAt_53 : decode cX6_keyAt 53 = .ok (.iaload, 1) := by decide +kernel
theorem dX6_keyAt_54 : decode cX6_keyAt 54 = .ok (.sipush 999, 3) := by decide +kernel
theorem dX6_keyAt_57 : decode cX6_keyAt 57 = .ok (.if_icmp .ne 8, 3) := by decide +kernel
theorem dX6_keyAt_60 : decode cX6_keyAt 60 = .ok (.bipush (-9), 2) := by decide +kernel
theorem dX6_keyAt_62 : decode cX6_keyAt 62 = .ok (.goto 25, 3) := by decide +kernel
theorem dX6_keyAt_65 : decode cX6_keyAt 65 = .ok (.bipush 100, 2) := by decide +kernel
theorem dX6_keyAt_67 : decode cX6_keyAt 67 = .ok (.aload_n 0, 1) := by decide +kernel
theorem dX6_keyAt_68 : decode cX6_keyAt 68 = .ok (.getfield 34, 3) := by decide +kernel
theorem dX6_keyAt_71 : decode cX6_keyAt 71 = .ok (.iload_n 2, 1) := by decide +kernel
theorem dX6_keyAt_72 : decode cX6_keyAt 72 = .ok (.iaload, 1) := by decide +kernel
theorem dX6_keyAt_73 : decode cX6_keyAt 73 = .ok (.bipush 16, 2) := by decide +kernel
theorem dX6_keyAt_75 : decode cX6_keyAt 75 = .ok (.idiv, 1) := by decide +kernel
theorem dX6_keyAt_76 : decode cX6_keyAt 76 = .ok (.imul, 1) := by decide +kernel
theorem dX6_keyAt_77 : decode cX6_keyAt 77 = .ok (.aload_n 0, 1) := by decide +kernel
theorem dX6_keyAt_78 : decode cX6_keyAt 78 = .ok (.getfield 34, 3) := by decide +kernel
theorem dX6_keyAt_81 : decode cX6_keyAt 81 = .ok (.iload_n 2, 1) := by decide +kernel
theorem dX6_keyAt_82 : decode cX6_keyAt 82 = .ok (.iaload, 1) := by decide +kernel
theorem dX6_keyAt_83 : decode cX6_keyAt 83 = .ok (.bipush 16, 2) := by decide +kernel
theorem dX6_keyAt_85 : decode cX6_keyAt 85 = .ok (.irem, 1) := by decide +kernel
theorem dX6_keyAt_86 : decode cX6_keyAt 86 = .ok (.iadd, 1) := by decide +kernel
theorem dX6_keyAt_87 : decode cX6_keyAt 87 = .ok (.ireturn, 1) := by decide +kernel
theorem dX6_common_0 : decode cX6_common 0 = .ok (.iload_n 0, 1) := by decide +kernel
theorem dX6_common_1 : decode cX6_common 1 = .ok (.istore_n 2, 1) := by decide +kernel
theorem dX6_common_2 : decode cX6_common 2 = .ok (.iload_n 1, 1) := by decide +kernel
theorem dX6_common_3 : decode cX6_common 3 = .ok (.istore_n 3, 1) := by decide +kernel
theorem dX6_common_4 : decode cX6_common 4 = .ok (.iload_n 3, 1) := by decide +kernel
theorem dX6_common_5 : decode cX6_common 5 = .ok (.ifCond .eq 16, 3) := by decide +kernel
theorem dX6_common_8 : decode cX6_common 8 = .ok (.iload_n 2, 1) := by decide +kernel
theorem dX6_common_9 : decode cX6_common 9 = .ok (.iload_n 3, 1) := by decide +kernel
theorem dX6_common_10 : decode cX6_common 10 = .ok (.irem, 1) := by decide +kernel
theorem dX6_common_11 : decode cX6_common 11 = .ok (.istore 4, 2) := by decide +kernel
theorem dX6_common_13 : decode cX6_common 13 = .ok (.iload_n 3, 1) := by decide +kernel
theorem dX6_common_14 : decode cX6_common 14 = .ok (.istore_n 2, 1) := by decide +kernel
theorem dX6_common_15 : decode cX6_common 15 = .ok (.iload 4, 2) := by decide +kernel
theorem dX6_common_17 : decode cX6_common 17 = .ok (.istore_n 3, 1) := by decide +kernel
theorem dX6_common_18 : decode cX6_common 18 = .ok (.goto (-14), 3) := by decide +kernel
theorem dX6_common_21 : decode cX6_common 21 = .ok (.iload_n 2, 1) := by decide +kernel
theorem dX6_common_22 : decode cX6_common 22 = .ok (.ireturn, 1) := by decide +kernel
theorem dX6_odds_0 : decode cX6_odds 0 = .ok (.aload_n 0, 1) := by decide +kernel
theorem dX6_odds_1 : decode cX6_odds 1 = .ok (.getfield 19, 3) := by decide +kernel
theorem dX6_odds_4 : decode cX6_odds 4 = .ok (.iconst 0, 1) := by decide +kernel
theorem dX6_odds_5 : decode cX6_odds 5 = .ok (.iaload, 1) := by decide +kernel
theorem dX6_odds_6 : decode cX6_odds 6 = .ok (.bipush (-9), 2) := by decide +kernel
theorem dX6_odds_8 : decode cX6_odds 8 = .ok (.if_icmp .eq 6, 3) := by decide +kernel
theorem dX6_odds_11 : decode cX6_odds 11 = .ok (.bipush (-3), 2) := by decide +kernel
theorem dX6_odds_13 : decode cX6_odds 13 = .ok (.ireturn, 1) := by decide +kernel
theorem dX6_odds_14 : decode cX6_odds 14 = .ok (.aload_n 0, 1) := by decide +kernel
theorem dX6_odds_15 : decode cX6_odds 15 = .ok (.iconst 0, 1) := by decide +kernel
theorem dX6_odds_16 : decode cX6_odds 16 = .ok (.invokevirtual 130, 3) := by decide +kernel
theorem dX6_odds_19 : decode cX6_odds 19 = .ok (.istore_n 2, 1) := by decide +kernel
theorem dX6_odds_20 : decode cX6_odds 20 = .ok (.iconst 0, 1) := by decide +kernel
theorem dX6_odds_21 : decode cX6_odds 21 = .ok (.istore_n 3, 1) := by decide +kernel
theorem dX6_odds_22 : decode cX6_odds 22 = .ok (.iconst 0, 1) := by decide +kernel
theorem dX6_odds_23 : decode cX6_odds 23 = .ok (.istore 4, 2) := by decide +kernel
theorem dX6_odds_25 : decode cX6_odds 25 = .ok (.iload 4, 2) := by decide +kernel
theorem dX6_odds_27 : decode cX6_odds 27 = .ok (.iload_n 2, 1) := by decide +kernel
theorem dX6_odds_28 : decode cX6_odds 28 = .ok (.if_icmp .ge 25, 3) := by decide +kernel
theorem dX6_odds_31 : decode cX6_odds 31 = .ok (.iload_n 3, 1) := by decide +kernel
theorem dX6_odds_32 : decode cX6_odds 32 = .ok (.aload_n 0, 1) := by decide +kernel
theorem dX6_odds_33 : decode cX6_odds 33 = .ok (.iconst 0, 1) := by decide +kernel
theorem dX6_odds_34 : decode cX6_odds 34 = .ok (.iconst 1, 1) := by decide +kernel
theorem dX6_odds_35 : decode cX6_odds 35 = .ok (.aload_n 0, 1) := by decide +kernel
theorem dX6_odds_36 : decode cX6_odds 36 = .ok (.getfield 25, 3) := by decide +kernel
theorem dX6_odds_39 : decode cX6_odds 39 = .ok (.iload 4, 2) := by decide +kernel
theorem dX6_odds_41 : decode cX6_odds 41 = .ok (.iaload, 1) := by decide +kernel
theorem dX6_odds_42 : decode cX6_odds 42 = .ok (.invokevirtual 143, 3) := by decide +kernel
theorem dX6_odds_45 : decode cX6_odds 45 = .ok (.iadd, 1) := by decide +kernel
theorem dX6_odds_46 : decode cX6_odds 46 = .ok (.istore_n 3, 1) := by decide +kernel
theorem dX6_odds_47 : decode cX6_odds 47 = .ok (.iinc 4 1, 3) := by decide +kernel
theorem dX6_odds_50 : decode cX6_odds 50 = .ok (.goto (-25), 3) := by decide +kernel
theorem dX6_odds_53 : decode cX6_odds 53 = .ok (.iload_n 1, 1) := by decide +kernel
theorem dX6_odds_54 : decode cX6_odds 54 = .ok (.ifCond .eq 13, 3) := by decide +kernel
theorem dX6_odds_57 : decode cX6_odds 57 = .ok (.iload_n 3, 1) := by decide +kernel
theorem dX6_odds_58 : decode cX6_odds 58 = .ok (.iload_n 3, 1) := by decide +kernel
theorem dX6_odds_59 : decode cX6_odds 59 = .ok (.iload_n 2, 1) := by decide +kernel
theorem dX6_odds_60 : decode cX6_odds 60 = .ok (.invokestatic 165, 3) := by decide +kernel
theorem dX6_odds_63 : decode cX6_odds 63 = .ok (.idiv, 1) := by decide +kernel
theorem dX6_odds_64 : decode cX6_odds 64 = .ok (.goto 10, 3) := by decide +kernel
theorem dX6_odds_67 : decode cX6_odds 67 = .ok (.iload_n 2, 1) := by decide +kernel
theorem dX6_odds_68 : decode cX6_odds 68 = .ok (.iload_n 3, 1) := by decide +kernel
theorem dX6_odds_69 : decode cX6_odds 69 = .ok (.iload_n 2, 1) := by decide +kernel
theorem dX6_odds_70 : decode cX6_odds 70 = .ok (.invokestatic 165, 3) := by decide +kernel
theorem dX6_odds_73 : decode cX6_odds 73 = .ok (.idiv, 1) := by decide +kernel
theorem dX6_odds_74 : decode cX6_odds 74 = .ok (.ireturn, 1) := by decide +kernel
theorem dX6_layParts_0 : decode cX6_layParts 0 = .ok (.iconst 0, 1) := by decide +kernel
theorem dX6_layParts_1 : decode cX6_layParts 1 = .ok (.istore_n 1, 1) := by decide +kernel
theorem dX6_layParts_2 : decode cX6_layParts 2 = .ok (.iconst 0, 1) := by decide +kernel
theorem dX6_layParts_3 : decode cX6_layParts 3 = .ok (.istore_n 2, 1) := by decide +kernel
theorem dX6_layParts_4 : decode cX6_layParts 4 = .ok (.iload_n 2, 1) := by decide +kernel
theorem dX6_layParts_5 : decode cX6_layParts 5 = .ok (.bipush 16, 2) := by decide +kernel
theorem dX6_layParts_7 : decode cX6_layParts 7 = .ok (.if_icmp .ge 17, 3) := by decide +kernel
theorem dX6_layParts_10 : decode cX6_layParts 10 = .ok (.aload_n 0, 1) := by decide +kernel
theorem dX6_layParts_11 : decode cX6_layParts 11 = .ok (.getfield 37, 3) := by decide +kernel
theorem dX6_layParts_14 : decode cX6_layParts 14 = .ok (.iload_n 2, 1) := by decide +kernel
theorem dX6_layParts_15 : decode cX6_layParts 15 = .ok (.bipush (-9), 2) := by decide +kernel
theorem dX6_layParts_17 : decode cX6_layParts 17 = .ok (.iastore, 1) := by decide +kernel
theorem dX6_layParts_18 : decode cX6_layParts 18 = .ok (.iinc 2 1, 3) := by decide +kernel
theorem dX6_layParts_21 : decode cX6_layParts 21 = .ok (.goto (-17), 3) := by decide +kernel
theorem dX6_layParts_24 : decode cX6_layParts 24 = .ok (.iconst 0, 1) := by decide +kernel
theorem dX6_layParts_25 : decode cX6_layParts 25 = .ok (.istore_n 2, 1) := by decide +kernel
theorem dX6_layParts_26 : decode cX6_layParts 26 = .ok (.iload_n 2, 1) := by decide +kernel
theorem dX6_layParts_27 : decode cX6_layParts 27 = .ok (.aload_n 0, 1) := by decide +kernel
theorem dX6_layParts_28 : decode cX6_layParts 28 = .ok (.getfield 47, 3) := by decide +kernel
theorem dX6_layParts_31 : decode cX6_layParts 31 = .ok (.aload_n 0, 1) := by decide +kernel
theorem dX6_layParts_32 : decode cX6_layParts 32 = .ok (.getfield 51, 3) := by decide +kernel
theorem dX6_layParts_35 : decode cX6_layParts 35 = .ok (.imul, 1) := by decide +kernel
theorem dX6_layParts_36 : decode cX6_layParts 36 = .ok (.if_icmp .ge 40, 3) := by decide +kernel
theorem dX6_layParts_39 : decode cX6_layParts 39 = .ok (.aload_n 0, 1) := by decide +kernel
theorem dX6_layParts_40 : decode cX6_layParts 40 = .ok (.getfield 7, 3) := by decide +kernel
theorem dX6_layParts_43 : decode cX6_layParts 43 = .ok (.iload_n 2, 1) := by decide +kernel
theorem dX6_layParts_44 : decode cX6_layParts 44 = .ok (.iaload, 1) := by decide +kernel
theorem dX6_layParts_45 : decode cX6_layParts 45 = .ok (.bipush 35, 2) := by decide +kernel
theorem dX6_layParts_47 : decode cX6_layParts 47 = .ok (.if_icmp .eq 23, 3) := by decide +kernel
theorem dX6_layParts_50 : decode cX6_layParts 50 = .ok (.aload_n 0, 1) := by decide +kernel
theorem dX6_layParts_51 : decode cX6_layParts 51 = .ok (.getfield 37, 3) := by decide +kernel
theorem dX6_layParts_54 : decode cX6_layParts 54 = .ok (.iload_n 2, 1) := by decide +kernel
theorem dX6_layParts_55 : decode cX6_layParts 55 = .ok (.iaload, 1) := by decide +kernel
theorem dX6_layParts_56 : decode cX6_layParts 56 = .ok (.bipush (-9), 2) := by decide +kernel
theorem dX6_layParts_58 : decode cX6_layParts 58 = .ok (.if_icmp .ne 12, 3) := by decide +kernel
theorem dX6_layParts_61 : decode cX6_layParts 61 = .ok (.aload_n 0, 1) := by decide +kernel
theorem dX6_layParts_62 : decode cX6_layParts 62 = .ok (.iload_n 2, 1) := by decide +kernel
theorem dX6_layParts_63 : decode cX6_layParts 63 = .ok (.iload_n 1, 1) := by decide +kernel
theorem dX6_layParts_64 : decode cX6_layParts 64 = .ok (.invokevirtual 168, 3) := by decide +kernel
theorem dX6_layParts_67 : decode cX6_layParts 67 = .ok (.iinc 1 1, 3) := by decide +kernel
theorem dX6_layParts_70 : decode cX6_layParts 70 = .ok (.iinc 2 1, 3) := by decide +kernel
theorem dX6_layParts_73 : decode cX6_layParts 73 = .ok (.goto (-47), 3) := by decide +kernel
theorem dX6_layParts_76 : decode cX6_layParts 76 = .ok (.iload_n 1, 1) := by decide +kernel
theorem dX6_layParts_77 : decode cX6_layParts 77 = .ok (.ireturn, 1) := by decide +kernel
theorem dX6_spread_0 : decode cX6_spread 0 = .ok (.aload_n 0, 1) := by decide +kernel
theorem dX6_spread_1 : decode cX6_spread 1 = .ok (.getfield 37, 3) := by decide +kernel
theorem dX6_spread_4 : decode cX6_spread 4 = .ok (.iload_n 1, 1) := by decide +kernel
theorem dX6_spread_5 : decode cX6_spread 5 = .ok (.iload_n 2, 1) := by decide +kernel
theorem dX6_spread_6 : decode cX6_spread 6 = .ok (.iastore, 1) := by decide +kernel
theorem dX6_spread_7 : decode cX6_spread 7 = .ok (.iconst 0, 1) := by decide +kernel
theorem dX6_spread_8 : decode cX6_spread 8 = .ok (.istore_n 3, 1) := by decide +kernel
theorem dX6_spread_9 : decode cX6_spread 9 = .ok (.iload_n 3, 1) := by decide +kernel
theorem dX6_spread_10 : decode cX6_spread 10 = .ok (.bipush 16, 2) := by decide +kernel
theorem dX6_spread_12 : decode cX6_spread 12 = .ok (.if_icmp .ge 116, 3) := by decide +kernel
theorem dX6_spread_15 : decode cX6_spread 15 = .ok (.iconst 0, 1) := by decide +kernel
theorem dX6_spread_16 : decode cX6_spread 16 = .ok (.istore 4, 2) := by decide +kernel
theorem dX6_spread_18 : decode cX6_spread 18 = .ok (.iload 4, 2) := by decide +kernel
theorem dX6_spread_20 : decode cX6_spread 20 = .ok (.aload_n 0, 1) := by decide +kernel
theorem dX6_spread_21 : decode cX6_spread 21 = .ok (.getfield 47, 3) := by decide +kernel
theorem dX6_spread_24 : decode cX6_spread 24 = .ok (.aload_n 0, 1) := by decide +kernel
theorem dX6_spread_25 : decode cX6_spread 25 = .ok (.getfield 51, 3) := by decide +kernel
theorem dX6_spread_28 : decode cX6_spread 28 = .ok (.imul, 1) := by decide +kernel
theorem dX6_spread_29 : decode cX6_spread 29 = .ok (.if_icmp .ge 93, 3) := by decide +kernel
theorem dX6_spread_32 : decode cX6_spread 32 = .ok (.aload_n 0, 1) := by decide +kernel
theorem dX6_spread_33 : decode cX6_spread 33 = .ok (.getfield 37, 3) := by decide +kernel
theorem dX6_spread_36 : decode cX6_spread 36 = .ok (.iload 4, 2) := by decide +kernel
theorem dX6_spread_38 : decode cX6_spread 38 = .ok (.iaload, 1) := by decide +kernel
theorem dX6_spread_39 : decode cX6_spread 39 = .ok (.iload_n 2, 1) := by decide +kernel
theorem dX6_spread_40 : decode cX6_spread 40 = .ok (.if_icmp .ne 16, 3) := by decide +kernel
theorem dX6_spread_43 : decode cX6_spread 43 = .ok (.aload_n 0, 1) := by decide +kernel
theorem dX6_spread_44 : decode cX6_spread 44 = .ok (.iconst 0, 1) := by decide +kernel
theorem dX6_spread_45 : decode cX6_spread 45 = .ok (.bipush 75, 2) := by decide +kernel
theorem dX6_spread_47 : decode cX6_spread 47 = .ok (.iload 4, 2) := by decide +kernel
theorem dX6_spread_49 : decode cX6_spread 49 = .ok (.iconst 1, 1) := by decide +kernel
theorem dX6_spread_50 : decode cX6_spread 50 = .ok (.invokevirtual 115, 3) := by decide +kernel
theorem dX6_spread_53 : decode cX6_spread 53 = .ok (.goto 4, 3) := by decide +kernel
theorem dX6_spread_56 : decode cX6_spread 56 = .ok (.iconst 0, 1) := by decide +kernel
theorem dX6_spread_57 : decode cX6_spread 57 = .ok (.istore 5, 2) := by decide +kernel
theorem dX6_spread_59 : decode cX6_spread 59 = .ok (.iconst 0, 1) := by decide +kernel
theorem dX6_spread_60 : decode cX6_spread 60 = .ok (.istore 6, 2) := by decide +kernel
theorem dX6_spread_62 : decode cX6_spread 62 = .ok (.iload 6, 2) := by decide +kernel
theorem dX6_spread_64 : decode cX6_spread 64 = .ok (.bipush 16, 2) := by decide +kernel
theorem dX6_spread_66 : decode cX6_spread 66 = .ok (.if_icmp .ge 50, 3) := by decide +kernel
theorem dX6_spread_69 : decode cX6_spread 69 = .ok (.aload_n 0, 1) := by decide +kernel
theorem dX6_spread_70 : decode cX6_spread 70 = .ok (.getfield 37, 3) := by decide +kernel
theorem dX6_spread_73 : decode cX6_spread 73 = .ok (.iload 6, 2) := by decide +kernel
theorem dX6_spread_75 : decode cX6_spread 75 = .ok (.iload 5, 2) := by decide +kernel
theorem dX6_spread_77 : decode cX6_spread 77 = .ok (.iload 6, 2) := by decide +kernel
theorem dX6_spread_79 : decode cX6_spread 79 = .ok (.ishr, 1) := by decide +kernel
theorem dX6_spread_80 : decode cX6_spread 80 = .ok (.iconst 1, 1) := by decide +kernel
theorem dX6_spread_81 : decode cX6_spread 81 = .ok (.iand, 1) := by decide +kernel
theorem dX6_spread_82 : decode cX6_spread 82 = .ok (.iconst 1, 1) := by decide +kernel
theorem dX6_spread_83 : decode cX6_spread 83 = .ok (.if_icmp .ne 19, 3) := by decide +kernel
theorem dX6_spread_86 : decode cX6_spread 86 = .ok (.aload_n 0, 1) := by decide +kernel
theorem dX6_spread_87 : decode cX6_spread 87 = .ok (.getfield 7, 3) := by decide +kernel
theorem dX6_spread_90 : decode cX6_spread 90 = .ok (.iload 6, 2) := by decide +kernel
theorem dX6_spread_92 : decode cX6_spread 92 = .ok (.iaload, 1) := by decide +kernel
theorem dX6_spread_93 : decode cX6_spread 93 = .ok (.bipush 35, 2) := by decide +kernel
theorem dX6_spread_95 : decode cX6_spread 95 = .ok (.if_icmp .eq 7, 3) := by decide +kernel
theorem dX6_spread_98 : decode cX6_spread 98 = .ok (.iload_n 2, 1) := by decide +kernel
theorem dX6_spread_99 : decode cX6_spread 99 = .ok (.goto 10, 3) := by decide +kernel
theorem dX6_spread_102 : decode cX6_spread 102 = .ok (.aload_n 0, 1) := by decide +kernel
theorem dX6_spread_103 : decode cX6_spread 103 = .ok (.getfield 37, 3) := by decide +kernel
theorem dX6_spread_106 : decode cX6_spread 106 = .ok (.iload 6, 2) := by decide +kernel
theorem dX6_spread_108 : decode cX6_spread 108 = .ok (.iaload, 1) := by decide +kernel
theorem dX6_spread_109 : decode cX6_spread 109 = .ok (.iastore, 1) := by decide +kernel
theorem dX6_spread_110 : decode cX6_spread 110 = .ok (.iinc 6 1, 3) := by decide +kernel
theorem dX6_spread_113 : decode cX6_spread 113 = .ok (.goto (-51), 3) := by decide +kernel
theorem dX6_spread_116 : decode cX6_spread 116 = .ok (.iinc 4 1, 3) := by decide +kernel
theorem dX6_spread_119 : decode cX6_spread 119 = .ok (.goto (-101), 3) := by decide +kernel
theorem dX6_spread_122 : decode cX6_spread 122 = .ok (.iinc 3 1, 3) := by decide +kernel
theorem dX6_spread_125 : decode cX6_spread 125 = .ok (.goto (-116), 3) := by decide +kernel
theorem dX6_spread_128 : decode cX6_spread 128 = .ok (.return_, 1) := by decide +kernel
theorem dX6_parts_0 : decode cX6_parts 0 = .ok (.aload_n 0, 1) := by decide +kernel
theorem dX6_parts_1 : decode cX6_parts 1 = .ok (.invokevirtual 172, 3) := by decide +kernel
theorem dX6_parts_4 : decode cX6_parts 4 = .ok (.ireturn, 1) := by decide +kernel
theorem dX6_part_0 : decode cX6_part 0 = .ok (.aload_n 0, 1) := by decide +kernel
theorem dX6_part_1 : decode cX6_part 1 = .ok (.iload_n 1, 1) := by decide +kernel
theorem dX6_part_2 : decode cX6_part 2 = .ok (.invokevirtual 94, 3) := by decide +kernel
theorem dX6_part_5 : decode cX6_part 5 = .ok (.ifCond .ne 5, 3) := by decide +kernel
theorem dX6_part_8 : decode cX6_part 8 = .ok (.iconst (-1), 1) := by decide +kernel
theorem dX6_part_9 : decode cX6_part 9 = .ok (.ireturn, 1) := by decide +kernel
theorem dX6_part_10 : decode cX6_part 10 = .ok (.aload_n 0, 1) := by decide +kernel
theorem dX6_part_11 : decode cX6_part 11 = .ok (.invokevirtual 172, 3) := by decide +kernel
theorem dX6_part_14 : decode cX6_part 14 = .ok (.pop, 1) := by decide +kernel
theorem dX6_part_15 : decode cX6_part 15 = .ok (.aload_n 0, 1) := by decide +kernel
theorem dX6_part_16 : decode cX6_part 16 = .ok (.getfield 37, 3) := by decide +kernel
theorem dX6_part_19 : decode cX6_part 19 = .ok (.iload_n 1, 1) := by decide +kernel
theorem dX6_part_20 : decode cX6_part 20 = .ok (.iaload, 1) := by decide +kernel
theorem dX6_part_21 : decode cX6_part 21 = .ok (.ireturn, 1) := by decide +kernel
theorem dX6_comesTo_0 : decode cX6_comesTo 0 = .ok (.aload_n 0, 1) := by decide +kernel
theorem dX6_comesTo_1 : decode cX6_comesTo 1 = .ok (.getfield 7, 3) := by decide +kernel
theorem dX6_comesTo_4 : decode cX6_comesTo 4 = .ok (.iload_n 1, 1) := by decide +kernel
theorem dX6_comesTo_5 : decode cX6_comesTo 5 = .ok (.iaload, 1) := by decide +kernel
theorem dX6_comesTo_6 : decode cX6_comesTo 6 = .ok (.istore_n 2, 1) := by decide +kernel
theorem dX6_comesTo_7 : decode cX6_comesTo 7 = .ok (.iconst 1, 1) := by decide +kernel
theorem dX6_comesTo_8 : decode cX6_comesTo 8 = .ok (.iload_n 1, 1) := by decide +kernel
theorem dX6_comesTo_9 : decode cX6_comesTo 9 = .ok (.ishl, 1) := by decide +kernel
theorem dX6_comesTo_10 : decode cX6_comesTo 10 = .ok (.istore_n 3, 1) := by decide +kernel
theorem dX6_comesTo_11 : decode cX6_comesTo 11 = .ok (.iconst 0, 1) := by decide +kernel
theorem dX6_comesTo_12 : decode cX6_comesTo 12 = .ok (.istore 4, 2) := by decide +kernel
theorem dX6_comesTo_14 : decode cX6_comesTo 14 = .ok (.iload 4, 2) := by decide +kernel
theorem dX6_comesTo_16 : decode cX6_comesTo 16 = .ok (.bipush 16, 2) := by decide +kernel
theorem dX6_comesTo_18 : decode cX6_comesTo 18 = .ok (.if_icmp .ge 58, 3) := by decide +kernel
theorem dX6_comesTo_21 : decode cX6_comesTo 21 = .ok (.iconst 0, 1) := by decide +kernel
theorem dX6_comesTo_22 : decode cX6_comesTo 22 = .ok (.istore 5, 2) := by decide +kernel
theorem dX6_comesTo_24 : decode cX6_comesTo 24 = .ok (.iload 5, 2) := by decide +kernel
theorem dX6_comesTo_26 : decode cX6_comesTo 26 = .ok (.aload_n 0, 1) := by decide +kernel
theorem dX6_comesTo_27 : decode cX6_comesTo 27 = .ok (.getfield 47, 3) := by decide +kernel
theorem dX6_comesTo_30 : decode cX6_comesTo 30 = .ok (.aload_n 0, 1) := by decide +kernel
theorem dX6_comesTo_31 : decode cX6_comesTo 31 = .ok (.getfield 51, 3) := by decide +kernel
theorem dX6_comesTo_34 : decode cX6_comesTo 34 = .ok (.imul, 1) := by decide +kernel
theorem dX6_comesTo_35 : decode cX6_comesTo 35 = .ok (.if_icmp .ge 35, 3) := by decide +kernel
theorem dX6_comesTo_38 : decode cX6_comesTo 38 = .ok (.iload_n 3, 1) := by decide +kernel
theorem dX6_comesTo_39 : decode cX6_comesTo 39 = .ok (.iload_n 3, 1) := by decide +kernel
theorem dX6_comesTo_40 : decode cX6_comesTo 40 = .ok (.iload 5, 2) := by decide +kernel
theorem dX6_comesTo_42 : decode cX6_comesTo 42 = .ok (.ishr, 1) := by decide +kernel
theorem dX6_comesTo_43 : decode cX6_comesTo 43 = .ok (.iconst 1, 1) := by decide +kernel
theorem dX6_comesTo_44 : decode cX6_comesTo 44 = .ok (.iand, 1) := by decide +kernel
theorem dX6_comesTo_45 : decode cX6_comesTo 45 = .ok (.iconst 1, 1) := by decide +kernel
theorem dX6_comesTo_46 : decode cX6_comesTo 46 = .ok (.if_icmp .ne 15, 3) := by decide +kernel
theorem dX6_comesTo_49 : decode cX6_comesTo 49 = .ok (.aload_n 0, 1) := by decide +kernel
theorem dX6_comesTo_50 : decode cX6_comesTo 50 = .ok (.iconst 0, 1) := by decide +kernel
theorem dX6_comesTo_51 : decode cX6_comesTo 51 = .ok (.iload_n 2, 1) := by decide +kernel
theorem dX6_comesTo_52 : decode cX6_comesTo 52 = .ok (.iload 5, 2) := by decide +kernel
theorem dX6_comesTo_54 : decode cX6_comesTo 54 = .ok (.iconst 1, 1) := by decide +kernel
theorem dX6_comesTo_55 : decode cX6_comesTo 55 = .ok (.invokevirtual 119, 3) := by decide +kernel
theorem dX6_comesTo_58 : decode cX6_comesTo 58 = .ok (.goto 4, 3) := by decide +kernel
theorem dX6_comesTo_61 : decode cX6_comesTo 61 = .ok (.iconst 0, 1) := by decide +kernel
theorem dX6_comesTo_62 : decode cX6_comesTo 62 = .ok (.ior, 1) := by decide +kernel
theorem dX6_comesTo_63 : decode cX6_comesTo 63 = .ok (.istore_n 3, 1) := by decide +kernel
theorem dX6_comesTo_64 : decode cX6_comesTo 64 = .ok (.iinc 5 1, 3) := by decide +kernel
theorem dX6_comesTo_67 : decode cX6_comesTo 67 = .ok (.goto (-43), 3) := by decide +kernel
theorem dX6_comesTo_70 : decode cX6_comesTo 70 = .ok (.iinc 4 1, 3) := by decide +kernel
theorem dX6_comesTo_73 : decode cX6_comesTo 73 = .ok (.goto (-59), 3) := by decide +kernel
theorem dX6_comesTo_76 : decode cX6_comesTo 76 = .ok (.iload_n 3, 1) := by decide +kernel
theorem dX6_comesTo_77 : decode cX6_comesTo 77 = .ok (.ireturn, 1) := by decide +kernel
theorem dX6_comes_0 : decode cX6_comes 0 = .ok (.aload_n 0, 1) := by decide +kernel
theorem dX6_comes_1 : decode cX6_comes 1 = .ok (.iload_n 1, 1) := by decide +kernel
theorem dX6_comes_2 : decode cX6_comes 2 = .ok (.invokevirtual 94, 3) := by decide +kernel
theorem dX6_comes_5 : decode cX6_comes 5 = .ok (.ifCond .ne 5, 3) := by decide +kernel
theorem dX6_comes_8 : decode cX6_comes 8 = .ok (.iconst (-1), 1) := by decide +kernel
theorem dX6_comes_9 : decode cX6_comes 9 = .ok (.ireturn, 1) := by decide +kernel
theorem dX6_comes_10 : decode cX6_comes 10 = .ok (.aload_n 0, 1) := by decide +kernel
theorem dX6_comes_11 : decode cX6_comes 11 = .ok (.getfield 7, 3) := by decide +kernel
theorem dX6_comes_14 : decode cX6_comes 14 = .ok (.iload_n 1, 1) := by decide +kernel
theorem dX6_comes_15 : decode cX6_comes 15 = .ok (.iaload, 1) := by decide +kernel
theorem dX6_comes_16 : decode cX6_comes 16 = .ok (.invokestatic 65, 3) := by decide +kernel
theorem dX6_comes_19 : decode cX6_comes 19 = .ok (.bipush (-9), 2) := by decide +kernel
theorem dX6_comes_21 : decode cX6_comes 21 = .ok (.if_icmp .ne 7, 3) := by decide +kernel
theorem dX6_comes_24 : decode cX6_comes 24 = .ok (.iconst 0, 1) := by decide +kernel
theorem dX6_comes_25 : decode cX6_comes 25 = .ok (.goto 8, 3) := by decide +kernel
theorem dX6_comes_28 : decode cX6_comes 28 = .ok (.aload_n 0, 1) := by decide +kernel
theorem dX6_comes_29 : decode cX6_comes 29 = .ok (.iload_n 1, 1) := by decide +kernel
theorem dX6_comes_30 : decode cX6_comes 30 = .ok (.invokevirtual 175, 3) := by decide +kernel
theorem dX6_comes_33 : decode cX6_comes 33 = .ok (.ireturn, 1) := by decide +kernel
theorem dX6_canComeAt_0 : decode cX6_canComeAt 0 = .ok (.aload_n 0, 1) := by decide +kernel
theorem dX6_canComeAt_1 : decode cX6_canComeAt 1 = .ok (.iload_n 1, 1) := by decide +kernel
theorem dX6_canComeAt_2 : decode cX6_canComeAt 2 = .ok (.invokevirtual 175, 3) := by decide +kernel
theorem dX6_canComeAt_5 : decode cX6_canComeAt 5 = .ok (.istore_n 3, 1) := by decide +kernel
theorem dX6_canComeAt_6 : decode cX6_canComeAt 6 = .ok (.aload_n 0, 1) := by decide +kernel
theorem dX6_canComeAt_7 : decode cX6_canComeAt 7 = .ok (.iload_n 2, 1) := by decide +kernel
theorem dX6_canComeAt_8 : decode cX6_canComeAt 8 = .ok (.invokevirtual 175, 3) := by decide +kernel
theorem dX6_canComeAt_11 : decode cX6_canComeAt 11 = .ok (.istore 4, 2) := by decide +kernel
theorem dX6_canComeAt_13 : decode cX6_canComeAt 13 = .ok (.iconst 0, 1) := by decide +kernel
theorem dX6_canComeAt_14 : decode cX6_canComeAt 14 = .ok (.istore 5, 2) := by decide +kernel
theorem dX6_canComeAt_16 : decode cX6_canComeAt 16 = .ok (.iconst 0, 1) := by decide +kernel
theorem dX6_canComeAt_17 : decode cX6_canComeAt 17 = .ok (.istore 6, 2) := by decide +kernel
theorem dX6_canComeAt_19 : decode cX6_canComeAt 19 = .ok (.iload 6, 2) := by decide +kernel
theorem dX6_canComeAt_21 : decode cX6_canComeAt 21 = .ok (.aload_n 0, 1) := by decide +kernel
theorem dX6_canComeAt_22 : decode cX6_canComeAt 22 = .ok (.getfield 47, 3) := by decide +kernel
theorem dX6_canComeAt_25 : decode cX6_canComeAt 25 = .ok (.aload_n 0, 1) := by decide +kernel
theorem dX6_canComeAt_26 : decode cX6_canComeAt 26 = .ok (.getfield 51, 3) := by decide +kernel
theorem dX6_canComeAt_29 : decode cX6_canComeAt 29 = .ok (.imul, 1) := by decide +kernel
theorem dX6_canComeAt_30 : decode cX6_canComeAt 30 = .ok (.if_icmp .ge 51, 3) := by decide +kernel
theorem dX6_canComeAt_33 : decode cX6_canComeAt 33 = .ok (.iload 5, 2) := by decide +kernel
theorem dX6_canComeAt_35 : decode cX6_canComeAt 35 = .ok (.ifCond .ne 33, 3) := by decide +kernel
theorem dX6_canComeAt_38 : decode cX6_canComeAt 38 = .ok (.iload_n 3, 1) := by decide +kernel
theorem dX6_canComeAt_39 : decode cX6_canComeAt 39 = .ok (.iload 6, 2) := by decide +kernel
theorem dX6_canComeAt_41 : decode cX6_canComeAt 41 = .ok (.ishr, 1) := by decide +kernel
theorem dX6_canComeAt_42 : decode cX6_canComeAt 42 = .ok (.iconst 1, 1) := by decide +kernel
theorem dX6_canComeAt_43 : decode cX6_canComeAt 43 = .ok (.iand, 1) := by decide +kernel
theorem dX6_canComeAt_44 : decode cX6_canComeAt 44 = .ok (.iconst 1, 1) := by decide +kernel
theorem dX6_canComeAt_45 : decode cX6_canComeAt 45 = .ok (.if_icmp .ne 27, 3) := by decide +kernel
theorem dX6_canComeAt_48 : decode cX6_canComeAt 48 = .ok (.aload_n 0, 1) := by decide +kernel
theorem dX6_canComeAt_49 : decode cX6_canComeAt 49 = .ok (.iconst 0, 1) := by decide +kernel
theorem dX6_canComeAt_50 : decode cX6_canComeAt 50 = .ok (.aload_n 0, 1) := by decide +kernel
theorem dX6_canComeAt_51 : decode cX6_canComeAt 51 = .ok (.getfield 7, 3) := by decide +kernel
theorem dX6_canComeAt_54 : decode cX6_canComeAt 54 = .ok (.iload_n 1, 1) := by decide +kernel
theorem dX6_canComeAt_55 : decode cX6_canComeAt 55 = .ok (.iaload, 1) := by decide +kernel
theorem dX6_canComeAt_56 : decode cX6_canComeAt 56 = .ok (.iload 6, 2) := by decide +kernel
theorem dX6_canComeAt_58 : decode cX6_canComeAt 58 = .ok (.iconst 1, 1) := by decide +kernel
theorem dX6_canComeAt_59 : decode cX6_canComeAt 59 = .ok (.invokevirtual 115, 3) := by decide +kernel
theorem dX6_canComeAt_62 : decode cX6_canComeAt 62 = .ok (.iload 4, 2) := by decide +kernel
theorem dX6_canComeAt_64 : decode cX6_canComeAt 64 = .ok (.iand, 1) := by decide +kernel
theorem dX6_canComeAt_65 : decode cX6_canComeAt 65 = .ok (.ifCond .eq 7, 3) := by decide +kernel
theorem dX6_canComeAt_68 : decode cX6_canComeAt 68 = .ok (.iconst 1, 1) := by decide +kernel
theorem dX6_canComeAt_69 : decode cX6_canComeAt 69 = .ok (.goto 4, 3) := by decide +kernel
theorem dX6_canComeAt_72 : decode cX6_canComeAt 72 = .ok (.iconst 0, 1) := by decide +kernel
theorem dX6_canComeAt_73 : decode cX6_canComeAt 73 = .ok (.istore 5, 2) := by decide +kernel
theorem dX6_canComeAt_75 : decode cX6_canComeAt 75 = .ok (.iinc 6 1, 3) := by decide +kernel
theorem dX6_canComeAt_78 : decode cX6_canComeAt 78 = .ok (.goto (-59), 3) := by decide +kernel
theorem dX6_canComeAt_81 : decode cX6_canComeAt 81 = .ok (.iload 5, 2) := by decide +kernel
theorem dX6_canComeAt_83 : decode cX6_canComeAt 83 = .ok (.ireturn, 1) := by decide +kernel
theorem dX6_areFoes_0 : decode cX6_areFoes 0 = .ok (.aload_n 0, 1) := by decide +kernel
theorem dX6_areFoes_1 : decode cX6_areFoes 1 = .ok (.getfield 7, 3) := by decide +kernel
theorem dX6_areFoes_4 : decode cX6_areFoes 4 = .ok (.iload_n 1, 1) := by decide +kernel
theorem dX6_areFoes_5 : decode cX6_areFoes 5 = .ok (.iaload, 1) := by decide +kernel
theorem dX6_areFoes_6 : decode cX6_areFoes 6 = .ok (.invokestatic 65, 3) := by decide +kernel
theorem dX6_areFoes_9 : decode cX6_areFoes 9 = .ok (.istore_n 3, 1) := by decide +kernel
theorem dX6_areFoes_10 : decode cX6_areFoes 10 = .ok (.iload_n 3, 1) := by decide +kernel
theorem dX6_areFoes_11 : decode cX6_areFoes 11 = .ok (.bipush (-9), 2) := by decide +kernel
theorem dX6_areFoes_13 : decode cX6_areFoes 13 = .ok (.if_icmp .eq 22, 3) := by decide +kernel
theorem dX6_areFoes_16 : decode cX6_areFoes 16 = .ok (.aload_n 0, 1) := by decide +kernel
theorem dX6_areFoes_17 : decode cX6_areFoes 17 = .ok (.getfield 7, 3) := by decide +kernel
theorem dX6_areFoes_20 : decode cX6_areFoes 20 = .ok (.iload_n 2, 1) := by decide +kernel
theorem dX6_areFoes_21 : decode cX6_areFoes 21 = .ok (.iaload, 1) := by decide +kernel
theorem dX6_areFoes_22 : decode cX6_areFoes 22 = .ok (.invokestatic 65, 3) := by decide +kernel
theorem dX6_areFoes_25 : decode cX6_areFoes 25 = .ok (.iconst 1, 1) := by decide +kernel
theorem dX6_areFoes_26 : decode cX6_areFoes 26 = .ok (.iload_n 3, 1) := by decide +kernel
theorem dX6_areFoes_27 : decode cX6_areFoes 27 = .ok (.isub, 1) := by decide +kernel
theorem dX6_areFoes_28 : decode cX6_areFoes 28 = .ok (.if_icmp .ne 7, 3) := by decide +kernel
theorem dX6_areFoes_31 : decode cX6_areFoes 31 = .ok (.iconst 1, 1) := by decide +kernel
theorem dX6_areFoes_32 : decode cX6_areFoes 32 = .ok (.goto 4, 3) := by decide +kernel
theorem dX6_areFoes_35 : decode cX6_areFoes 35 = .ok (.iconst 0, 1) := by decide +kernel
theorem dX6_areFoes_36 : decode cX6_areFoes 36 = .ok (.ireturn, 1) := by decide +kernel
theorem dX6_comesAt_0 : decode cX6_comesAt 0 = .ok (.aload_n 0, 1) := by decide +kernel
theorem dX6_comesAt_1 : decode cX6_comesAt 1 = .ok (.iload_n 1, 1) := by decide +kernel
theorem dX6_comesAt_2 : decode cX6_comesAt 2 = .ok (.invokevirtual 94, 3) := by decide +kernel
theorem dX6_comesAt_5 : decode cX6_comesAt 5 = .ok (.ifCond .eq 11, 3) := by decide +kernel
theorem dX6_comesAt_8 : decode cX6_comesAt 8 = .ok (.aload_n 0, 1) := by decide +kernel
theorem dX6_comesAt_9 : decode cX6_comesAt 9 = .ok (.iload_n 2, 1) := by decide +kernel
theorem dX6_comesAt_10 : decode cX6_comesAt 10 = .ok (.invokevirtual 94, 3) := by decide +kernel
theorem dX6_comesAt_13 : decode cX6_comesAt 13 = .ok (.ifCond .ne 5, 3) := by decide +kernel
theorem dX6_comesAt_16 : decode cX6_comesAt 16 = .ok (.iconst (-1), 1) := by decide +kernel
theorem dX6_comesAt_17 : decode cX6_comesAt 17 = .ok (.ireturn, 1) := by decide +kernel
theorem dX6_comesAt_18 : decode cX6_comesAt 18 = .ok (.aload_n 0, 1) := by decide +kernel
theorem dX6_comesAt_19 : decode cX6_comesAt 19 = .ok (.iload_n 1, 1) := by decide +kernel
theorem dX6_comesAt_20 : decode cX6_comesAt 20 = .ok (.iload_n 2, 1) := by decide +kernel
theorem dX6_comesAt_21 : decode cX6_comesAt 21 = .ok (.invokevirtual 178, 3) := by decide +kernel
theorem dX6_comesAt_24 : decode cX6_comesAt 24 = .ok (.ifCond .ne 8, 3) := by decide +kernel
theorem dX6_comesAt_27 : decode cX6_comesAt 27 = .ok (.bipush (-3), 2) := by decide +kernel
theorem dX6_comesAt_29 : decode cX6_comesAt 29 = .ok (.goto 17, 3) := by decide +kernel
theorem dX6_comesAt_32 : decode cX6_comesAt 32 = .ok (.aload_n 0, 1) := by decide +kernel
theorem dX6_comesAt_33 : decode cX6_comesAt 33 = .ok (.iload_n 1, 1) := by decide +kernel
theorem dX6_comesAt_34 : decode cX6_comesAt 34 = .ok (.iload_n 2, 1) := by decide +kernel
theorem dX6_comesAt_35 : decode cX6_comesAt 35 = .ok (.invokevirtual 181, 3) := by decide +kernel
theorem dX6_comesAt_38 : decode cX6_comesAt 38 = .ok (.ifCond .eq 7, 3) := by decide +kernel
theorem dX6_comesAt_41 : decode cX6_comesAt 41 = .ok (.iconst 1, 1) := by decide +kernel
theorem dX6_comesAt_42 : decode cX6_comesAt 42 = .ok (.goto 4, 3) := by decide +kernel
theorem dX6_comesAt_45 : decode cX6_comesAt 45 = .ok (.iconst 0, 1) := by decide +kernel
theorem dX6_comesAt_46 : decode cX6_comesAt 46 = .ok (.ireturn, 1) := by decide +kernel
theorem dX6_shut_0 : decode cX6_shut 0 = .ok (.iconst 0, 1) := by decide +kernel
theorem dX6_shut_1 : decode cX6_shut 1 = .ok (.istore_n 1, 1) := by decide +kernel
theorem dX6_shut_2 : decode cX6_shut 2 = .ok (.iload_n 1, 1) := by decide +kernel
theorem dX6_shut_3 : decode cX6_shut 3 = .ok (.aload_n 0, 1) := by decide +kernel
theorem dX6_shut_4 : decode cX6_shut 4 = .ok (.getfield 47, 3) := by decide +kernel
theorem dX6_shut_7 : decode cX6_shut 7 = .ok (.aload_n 0, 1) := by decide +kernel
theorem dX6_shut_8 : decode cX6_shut 8 = .ok (.getfield 51, 3) := by decide +kernel
theorem dX6_shut_11 : decode cX6_shut 11 = .ok (.imul, 1) := by decide +kernel
theorem dX6_shut_12 : decode cX6_shut 12 = .ok (.if_icmp .ge 50, 3) := by decide +kernel
theorem dX6_shut_15 : decode cX6_shut 15 = .ok (.iconst 0, 1) := by decide +kernel
theorem dX6_shut_16 : decode cX6_shut 16 = .ok (.istore_n 2, 1) := by decide +kernel
theorem dX6_shut_17 : decode cX6_shut 17 = .ok (.iload_n 2, 1) := by decide +kernel
theorem dX6_shut_18 : decode cX6_shut 18 = .ok (.aload_n 0, 1) := by decide +kernel
theorem dX6_shut_19 : decode cX6_shut 19 = .ok (.getfield 47, 3) := by decide +kernel
theorem dX6_shut_22 : decode cX6_shut 22 = .ok (.aload_n 0, 1) := by decide +kernel
theorem dX6_shut_23 : decode cX6_shut 23 = .ok (.getfield 51, 3) := by decide +kernel
theorem dX6_shut_26 : decode cX6_shut 26 = .ok (.imul, 1) := by decide +kernel
theorem dX6_shut_27 : decode cX6_shut 27 = .ok (.if_icmp .ge 29, 3) := by decide +kernel
theorem dX6_shut_30 : decode cX6_shut 30 = .ok (.aload_n 0, 1) := by decide +kernel
theorem dX6_shut_31 : decode cX6_shut 31 = .ok (.iload_n 1, 1) := by decide +kernel
theorem dX6_shut_32 : decode cX6_shut 32 = .ok (.iload_n 2, 1) := by decide +kernel
theorem dX6_shut_33 : decode cX6_shut 33 = .ok (.invokevirtual 178, 3) := by decide +kernel
theorem dX6_shut_36 : decode cX6_shut 36 = .ok (.ifCond .eq 14, 3) := by decide +kernel
theorem dX6_shut_39 : decode cX6_shut 39 = .ok (.aload_n 0, 1) := by decide +kernel
theorem dX6_shut_40 : decode cX6_shut 40 = .ok (.iload_n 1, 1) := by decide +kernel
theorem dX6_shut_41 : decode cX6_shut 41 = .ok (.iload_n 2, 1) := by decide +kernel
theorem dX6_shut_42 : decode cX6_shut 42 = .ok (.invokevirtual 181, 3) := by decide +kernel
theorem dX6_shut_45 : decode cX6_shut 45 = .ok (.ifCond .eq 5, 3) := by decide +kernel
theorem dX6_shut_48 : decode cX6_shut 48 = .ok (.iconst 0, 1) := by decide +kernel
theorem dX6_shut_49 : decode cX6_shut 49 = .ok (.ireturn, 1) := by decide +kernel
theorem dX6_shut_50 : decode cX6_shut 50 = .ok (.iinc 2 1, 3) := by decide +kernel
theorem dX6_shut_53 : decode cX6_shut 53 = .ok (.goto (-36), 3) := by decide +kernel
theorem dX6_shut_56 : decode cX6_shut 56 = .ok (.iinc 1 1, 3) := by decide +kernel
theorem dX6_shut_59 : decode cX6_shut 59 = .ok (.goto (-57), 3) := by decide +kernel
theorem dX6_shut_62 : decode cX6_shut 62 = .ok (.iconst 1, 1) := by decide +kernel
theorem dX6_shut_63 : decode cX6_shut 63 = .ok (.ireturn, 1) := by decide +kernel
theorem dX6_isLike_0 : decode cX6_isLike 0 = .ok (.aload_n 0, 1) := by decide +kernel
theorem dX6_isLike_1 : decode cX6_isLike 1 = .ok (.getfield 16, 3) := by decide +kernel
theorem dX6_isLike_4 : decode cX6_isLike 4 = .ok (.iload_n 1, 1) := by decide +kernel
theorem dX6_isLike_5 : decode cX6_isLike 5 = .ok (.iaload, 1) := by decide +kernel
theorem dX6_isLike_6 : decode cX6_isLike 6 = .ok (.aload_n 0, 1) := by decide +kernel
theorem dX6_isLike_7 : decode cX6_isLike 7 = .ok (.getfield 44, 3) := by decide +kernel
theorem dX6_isLike_10 : decode cX6_isLike 10 = .ok (.bipush 34, 2) := by decide +kernel
theorem dX6_isLike_12 : decode cX6_isLike 12 = .ok (.iload_n 2, 1) := by decide +kernel
theorem dX6_isLike_13 : decode cX6_isLike 13 = .ok (.imul, 1) := by decide +kernel
theorem dX6_isLike_14 : decode cX6_isLike 14 = .ok (.bipush 32, 2) := by decide +kernel
theorem dX6_isLike_16 : decode cX6_isLike 16 = .ok (.iadd, 1) := by decide +kernel
theorem dX6_isLike_17 : decode cX6_isLike 17 = .ok (.iaload, 1) := by decide +kernel
theorem dX6_isLike_18 : decode cX6_isLike 18 = .ok (.if_icmp .ne 7, 3) := by decide +kernel
theorem dX6_isLike_21 : decode cX6_isLike 21 = .ok (.iconst 1, 1) := by decide +kernel
theorem dX6_isLike_22 : decode cX6_isLike 22 = .ok (.goto 4, 3) := by decide +kernel
theorem dX6_isLike_25 : decode cX6_isLike 25 = .ok (.iconst 0, 1) := by decide +kernel
theorem dX6_isLike_26 : decode cX6_isLike 26 = .ok (.istore_n 3, 1) := by decide +kernel
theorem dX6_isLike_27 : decode cX6_isLike 27 = .ok (.iconst 0, 1) := by decide +kernel
theorem dX6_isLike_28 : decode cX6_isLike 28 = .ok (.istore 4, 2) := by decide +kernel
theorem dX6_isLike_30 : decode cX6_isLike 30 = .ok (.iload 4, 2) := by decide +kernel
theorem dX6_isLike_32 : decode cX6_isLike 32 = .ok (.aload_n 0, 1) := by decide +kernel
theorem dX6_isLike_33 : decode cX6_isLike 33 = .ok (.getfield 47, 3) := by decide +kernel
theorem dX6_isLike_36 : decode cX6_isLike 36 = .ok (.aload_n 0, 1) := by decide +kernel
theorem dX6_isLike_37 : decode cX6_isLike 37 = .ok (.getfield 51, 3) := by decide +kernel
theorem dX6_isLike_40 : decode cX6_isLike 40 = .ok (.imul, 1) := by decide +kernel
theorem dX6_isLike_41 : decode cX6_isLike 41 = .ok (.if_icmp .ge 76, 3) := by decide +kernel
theorem dX6_isLike_44 : decode cX6_isLike 44 = .ok (.iload_n 3, 1) := by decide +kernel
theorem dX6_isLike_45 : decode cX6_isLike 45 = .ok (.ifCond .eq 64, 3) := by decide +kernel
theorem dX6_isLike_48 : decode cX6_isLike 48 = .ok (.aload_n 0, 1) := by decide +kernel
theorem dX6_isLike_49 : decode cX6_isLike 49 = .ok (.getfield 7, 3) := by decide +kernel
theorem dX6_isLike_52 : decode cX6_isLike 52 = .ok (.bipush 16, 2) := by decide +kernel
theorem dX6_isLike_54 : decode cX6_isLike 54 = .ok (.iload_n 1, 1) := by decide +kernel
theorem dX6_isLike_55 : decode cX6_isLike 55 = .ok (.imul, 1) := by decide +kernel
theorem dX6_isLike_56 : decode cX6_isLike 56 = .ok (.iload 4, 2) := by decide +kernel
theorem dX6_isLike_58 : decode cX6_isLike 58 = .ok (.iadd, 1) := by decide +kernel
theorem dX6_isLike_59 : decode cX6_isLike 59 = .ok (.iaload, 1) := by decide +kernel
theorem dX6_isLike_60 : decode cX6_isLike 60 = .ok (.aload_n 0, 1) := by decide +kernel
theorem dX6_isLike_61 : decode cX6_isLike 61 = .ok (.getfield 44, 3) := by decide +kernel
theorem dX6_isLike_64 : decode cX6_isLike 64 = .ok (.bipush 34, 2) := by decide +kernel
theorem dX6_isLike_66 : decode cX6_isLike 66 = .ok (.iload_n 2, 1) := by decide +kernel
theorem dX6_isLike_67 : decode cX6_isLike 67 = .ok (.imul, 1) := by decide +kernel
theorem dX6_isLike_68 : decode cX6_isLike 68 = .ok (.iload 4, 2) := by decide +kernel
theorem dX6_isLike_70 : decode cX6_isLike 70 = .ok (.iadd, 1) := by decide +kernel
theorem dX6_isLike_71 : decode cX6_isLike 71 = .ok (.iaload, 1) := by decide +kernel
theorem dX6_isLike_72 : decode cX6_isLike 72 = .ok (.if_icmp .ne 37, 3) := by decide +kernel
theorem dX6_isLike_75 : decode cX6_isLike 75 = .ok (.aload_n 0, 1) := by decide +kernel
theorem dX6_isLike_76 : decode cX6_isLike 76 = .ok (.getfield 13, 3) := by decide +kernel
theorem dX6_isLike_79 : decode cX6_isLike 79 = .ok (.bipush 16, 2) := by decide +kernel
theorem dX6_isLike_81 : decode cX6_isLike 81 = .ok (.iload_n 1, 1) := by decide +kernel
theorem dX6_isLike_82 : decode cX6_isLike 82 = .ok (.imul, 1) := by decide +kernel
theorem dX6_isLike_83 : decode cX6_isLike 83 = .ok (.iload 4, 2) := by decide +kernel
theorem dX6_isLike_85 : decode cX6_isLike 85 = .ok (.iadd, 1) := by decide +kernel
theorem dX6_isLike_86 : decode cX6_isLike 86 = .ok (.iaload, 1) := by decide +kernel
theorem dX6_isLike_87 : decode cX6_isLike 87 = .ok (.aload_n 0, 1) := by decide +kernel
theorem dX6_isLike_88 : decode cX6_isLike 88 = .ok (.getfield 44, 3) := by decide +kernel
theorem dX6_isLike_91 : decode cX6_isLike 91 = .ok (.bipush 34, 2) := by decide +kernel
theorem dX6_isLike_93 : decode cX6_isLike 93 = .ok (.iload_n 2, 1) := by decide +kernel
theorem dX6_isLike_94 : decode cX6_isLike 94 = .ok (.imul, 1) := by decide +kernel
theorem dX6_isLike_95 : decode cX6_isLike 95 = .ok (.bipush 16, 2) := by decide +kernel
theorem dX6_isLike_97 : decode cX6_isLike 97 = .ok (.iadd, 1) := by decide +kernel
theorem dX6_isLike_98 : decode cX6_isLike 98 = .ok (.iload 4, 2) := by decide +kernel
theorem dX6_isLike_100 : decode cX6_isLike 100 = .ok (.iadd, 1) := by decide +kernel
theorem dX6_isLike_101 : decode cX6_isLike 101 = .ok (.iaload, 1) := by decide +kernel
theorem dX6_isLike_102 : decode cX6_isLike 102 = .ok (.if_icmp .ne 7, 3) := by decide +kernel
theorem dX6_isLike_105 : decode cX6_isLike 105 = .ok (.iconst 1, 1) := by decide +kernel
theorem dX6_isLike_106 : decode cX6_isLike 106 = .ok (.goto 4, 3) := by decide +kernel
theorem dX6_isLike_109 : decode cX6_isLike 109 = .ok (.iconst 0, 1) := by decide +kernel
theorem dX6_isLike_110 : decode cX6_isLike 110 = .ok (.istore_n 3, 1) := by decide +kernel
theorem dX6_isLike_111 : decode cX6_isLike 111 = .ok (.iinc 4 1, 3) := by decide +kernel
theorem dX6_isLike_114 : decode cX6_isLike 114 = .ok (.goto (-84), 3) := by decide +kernel
theorem dX6_isLike_117 : decode cX6_isLike 117 = .ok (.iload_n 3, 1) := by decide +kernel
theorem dX6_isLike_118 : decode cX6_isLike 118 = .ok (.ireturn, 1) := by decide +kernel
theorem dX6_oneWay_0 : decode cX6_oneWay 0 = .ok (.aload_n 0, 1) := by decide +kernel
theorem dX6_oneWay_1 : decode cX6_oneWay 1 = .ok (.iload_n 1, 1) := by decide +kernel
theorem dX6_oneWay_2 : decode cX6_oneWay 2 = .ok (.invokevirtual 130, 3) := by decide +kernel
theorem dX6_oneWay_5 : decode cX6_oneWay 5 = .ok (.istore_n 3, 1) := by decide +kernel
theorem dX6_oneWay_6 : decode cX6_oneWay 6 = .ok (.iconst 0, 1) := by decide +kernel
theorem dX6_oneWay_7 : decode cX6_oneWay 7 = .ok (.istore 4, 2) := by decide +kernel
theorem dX6_oneWay_9 : decode cX6_oneWay 9 = .ok (.iconst 0, 1) := by decide +kernel
theorem dX6_oneWay_10 : decode cX6_oneWay 10 = .ok (.istore 5, 2) := by decide +kernel
theorem dX6_oneWay_12 : decode cX6_oneWay 12 = .ok (.iload 5, 2) := by decide +kernel
theorem dX6_oneWay_14 : decode cX6_oneWay 14 = .ok (.iload_n 3, 1) := by decide +kernel
theorem dX6_oneWay_15 : decode cX6_oneWay 15 = .ok (.if_icmp .ge 52, 3) := by decide +kernel
theorem dX6_oneWay_18 : decode cX6_oneWay 18 = .ok (.aload_n 0, 1) := by decide +kernel
theorem dX6_oneWay_19 : decode cX6_oneWay 19 = .ok (.iload_n 1, 1) := by decide +kernel
theorem dX6_oneWay_20 : decode cX6_oneWay 20 = .ok (.iload_n 1, 1) := by decide +kernel
theorem dX6_oneWay_21 : decode cX6_oneWay 21 = .ok (.iconst 1, 1) := by decide +kernel
theorem dX6_oneWay_22 : decode cX6_oneWay 22 = .ok (.iadd, 1) := by decide +kernel
theorem dX6_oneWay_23 : decode cX6_oneWay 23 = .ok (.aload_n 0, 1) := by decide +kernel
theorem dX6_oneWay_24 : decode cX6_oneWay 24 = .ok (.getfield 25, 3) := by decide +kernel
theorem dX6_oneWay_27 : decode cX6_oneWay 27 = .ok (.sipush 256, 3) := by decide +kernel
theorem dX6_oneWay_30 : decode cX6_oneWay 30 = .ok (.iload_n 1, 1) := by decide +kernel
theorem dX6_oneWay_31 : decode cX6_oneWay 31 = .ok (.imul, 1) := by decide +kernel
theorem dX6_oneWay_32 : decode cX6_oneWay 32 = .ok (.iload 5, 2) := by decide +kernel
theorem dX6_oneWay_34 : decode cX6_oneWay 34 = .ok (.iadd, 1) := by decide +kernel
theorem dX6_oneWay_35 : decode cX6_oneWay 35 = .ok (.iaload, 1) := by decide +kernel
theorem dX6_oneWay_36 : decode cX6_oneWay 36 = .ok (.invokevirtual 143, 3) := by decide +kernel
theorem dX6_oneWay_39 : decode cX6_oneWay 39 = .ok (.pop, 1) := by decide +kernel
theorem dX6_oneWay_40 : decode cX6_oneWay 40 = .ok (.iload 4, 2) := by decide +kernel
theorem dX6_oneWay_42 : decode cX6_oneWay 42 = .ok (.aload_n 0, 1) := by decide +kernel
theorem dX6_oneWay_43 : decode cX6_oneWay 43 = .ok (.iload_n 1, 1) := by decide +kernel
theorem dX6_oneWay_44 : decode cX6_oneWay 44 = .ok (.iconst 1, 1) := by decide +kernel
theorem dX6_oneWay_45 : decode cX6_oneWay 45 = .ok (.iadd, 1) := by decide +kernel
theorem dX6_oneWay_46 : decode cX6_oneWay 46 = .ok (.iload_n 2, 1) := by decide +kernel
theorem dX6_oneWay_47 : decode cX6_oneWay 47 = .ok (.invokevirtual 184, 3) := by decide +kernel
theorem dX6_oneWay_50 : decode cX6_oneWay 50 = .ok (.ifCond .eq 7, 3) := by decide +kernel
theorem dX6_oneWay_53 : decode cX6_oneWay 53 = .ok (.iconst 1, 1) := by decide +kernel
theorem dX6_oneWay_54 : decode cX6_oneWay 54 = .ok (.goto 4, 3) := by decide +kernel
theorem dX6_oneWay_57 : decode cX6_oneWay 57 = .ok (.iconst 0, 1) := by decide +kernel
theorem dX6_oneWay_58 : decode cX6_oneWay 58 = .ok (.iadd, 1) := by decide +kernel
theorem dX6_oneWay_59 : decode cX6_oneWay 59 = .ok (.istore 4, 2) := by decide +kernel
theorem dX6_oneWay_61 : decode cX6_oneWay 61 = .ok (.iinc 5 1, 3) := by decide +kernel
theorem dX6_oneWay_64 : decode cX6_oneWay 64 = .ok (.goto (-52), 3) := by decide +kernel
theorem dX6_oneWay_67 : decode cX6_oneWay 67 = .ok (.iload 4, 2) := by decide +kernel
theorem dX6_oneWay_69 : decode cX6_oneWay 69 = .ok (.ireturn, 1) := by decide +kernel
theorem dX6_twoWays_0 : decode cX6_twoWays 0 = .ok (.aload_n 0, 1) := by decide +kernel
theorem dX6_twoWays_1 : decode cX6_twoWays 1 = .ok (.iload_n 1, 1) := by decide +kernel
theorem dX6_twoWays_2 : decode cX6_twoWays 2 = .ok (.invokevirtual 130, 3) := by decide +kernel
theorem dX6_twoWays_5 : decode cX6_twoWays 5 = .ok (.istore_n 3, 1) := by decide +kernel
theorem dX6_twoWays_6 : decode cX6_twoWays 6 = .ok (.iconst 0, 1) := by decide +kernel
theorem dX6_twoWays_7 : decode cX6_twoWays 7 = .ok (.istore 4, 2) := by decide +kernel
theorem dX6_twoWays_9 : decode cX6_twoWays 9 = .ok (.iconst 0, 1) := by decide +kernel
theorem dX6_twoWays_10 : decode cX6_twoWays 10 = .ok (.istore 5, 2) := by decide +kernel
theorem dX6_twoWays_12 : decode cX6_twoWays 12 = .ok (.iload 5, 2) := by decide +kernel
theorem dX6_twoWays_14 : decode cX6_twoWays 14 = .ok (.iload_n 3, 1) := by decide +kernel
theorem dX6_twoWays_15 : decode cX6_twoWays 15 = .ok (.if_icmp .ge 44, 3) := by decide +kernel
theorem dX6_twoWays_18 : decode cX6_twoWays 18 = .ok (.aload_n 0, 1) := by decide +kernel
theorem dX6_twoWays_19 : decode cX6_twoWays 19 = .ok (.iload_n 1, 1) := by decide +kernel
theorem dX6_twoWays_20 : decode cX6_twoWays 20 = .ok (.iload_n 1, 1) := by decide +kernel
theorem dX6_twoWays_21 : decode cX6_twoWays 21 = .ok (.iconst 1, 1) := by decide +kernel
theorem dX6_twoWays_22 : decode cX6_twoWays 22 = .ok (.iadd, 1) := by decide +kernel
theorem dX6_twoWays_23 : decode cX6_twoWays 23 = .ok (.aload_n 0, 1) := by decide +kernel
theorem dX6_twoWays_24 : decode cX6_twoWays 24 = .ok (.getfield 25, 3) := by decide +kernel
theorem dX6_twoWays_27 : decode cX6_twoWays 27 = .ok (.sipush 256, 3) := by decide +kernel
theorem dX6_twoWays_30 : decode cX6_twoWays 30 = .ok (.iload_n 1, 1) := by decide +kernel
theorem dX6_twoWays_31 : decode cX6_twoWays 31 = .ok (.imul, 1) := by decide +kernel
theorem dX6_twoWays_32 : decode cX6_twoWays 32 = .ok (.iload 5, 2) := by decide +kernel
theorem dX6_twoWays_34 : decode cX6_twoWays 34 = .ok (.iadd, 1) := by decide +kernel
theorem dX6_twoWays_35 : decode cX6_twoWays 35 = .ok (.iaload, 1) := by decide +kernel
theorem dX6_twoWays_36 : decode cX6_twoWays 36 = .ok (.invokevirtual 143, 3) := by decide +kernel
theorem dX6_twoWays_39 : decode cX6_twoWays 39 = .ok (.pop, 1) := by decide +kernel
theorem dX6_twoWays_40 : decode cX6_twoWays 40 = .ok (.iload 4, 2) := by decide +kernel
theorem dX6_twoWays_42 : decode cX6_twoWays 42 = .ok (.aload_n 0, 1) := by decide +kernel
theorem dX6_twoWays_43 : decode cX6_twoWays 43 = .ok (.iload_n 1, 1) := by decide +kernel
theorem dX6_twoWays_44 : decode cX6_twoWays 44 = .ok (.iconst 1, 1) := by decide +kernel
theorem dX6_twoWays_45 : decode cX6_twoWays 45 = .ok (.iadd, 1) := by decide +kernel
theorem dX6_twoWays_46 : decode cX6_twoWays 46 = .ok (.iload_n 2, 1) := by decide +kernel
theorem dX6_twoWays_47 : decode cX6_twoWays 47 = .ok (.invokevirtual 187, 3) := by decide +kernel
theorem dX6_twoWays_50 : decode cX6_twoWays 50 = .ok (.iadd, 1) := by decide +kernel
theorem dX6_twoWays_51 : decode cX6_twoWays 51 = .ok (.istore 4, 2) := by decide +kernel
theorem dX6_twoWays_53 : decode cX6_twoWays 53 = .ok (.iinc 5 1, 3) := by decide +kernel
theorem dX6_twoWays_56 : decode cX6_twoWays 56 = .ok (.goto (-44), 3) := by decide +kernel
theorem dX6_twoWays_59 : decode cX6_twoWays 59 = .ok (.iload 4, 2) := by decide +kernel
theorem dX6_twoWays_61 : decode cX6_twoWays 61 = .ok (.ireturn, 1) := by decide +kernel
theorem dX6_ways_0 : decode cX6_ways 0 = .ok (.iload_n 1, 1) := by decide +kernel
theorem dX6_ways_1 : decode cX6_ways 1 = .ok (.i2l, 1) := by decide +kernel
theorem dX6_ways_2 : decode cX6_ways 2 = .ok (.lconst 0, 1) := by decide +kernel
theorem dX6_ways_3 : decode cX6_ways 3 = .ok (.lconst 1, 1) := by decide +kernel
theorem dX6_ways_4 : decode cX6_ways 4 = .ok (.invokestatic 56, 3) := by decide +kernel
theorem dX6_ways_7 : decode cX6_ways 7 = .ok (.ifCond .ne 5, 3) := by decide +kernel
theorem dX6_ways_10 : decode cX6_ways 10 = .ok (.iconst (-1), 1) := by decide +kernel
theorem dX6_ways_11 : decode cX6_ways 11 = .ok (.ireturn, 1) := by decide +kernel
theorem dX6_ways_12 : decode cX6_ways 12 = .ok (.iload_n 2, 1) := by decide +kernel
theorem dX6_ways_13 : decode cX6_ways 13 = .ok (.i2l, 1) := by decide +kernel
theorem dX6_ways_14 : decode cX6_ways 14 = .ok (.lconst 1, 1) := by decide +kernel
theorem dX6_ways_15 : decode cX6_ways 15 = .ok (.ldc2_w 190, 3) := by decide +kernel
theorem dX6_ways_18 : decode cX6_ways 18 = .ok (.invokestatic 56, 3) := by decide +kernel
theorem dX6_ways_21 : decode cX6_ways 21 = .ok (.ifCond .ne 6, 3) := by decide +kernel
theorem dX6_ways_24 : decode cX6_ways 24 = .ok (.bipush (-2), 2) := by decide +kernel
theorem dX6_ways_26 : decode cX6_ways 26 = .ok (.ireturn, 1) := by decide +kernel
theorem dX6_ways_27 : decode cX6_ways 27 = .ok (.aload_n 0, 1) := by decide +kernel
theorem dX6_ways_28 : decode cX6_ways 28 = .ok (.getfield 40, 3) := by decide +kernel
theorem dX6_ways_31 : decode cX6_ways 31 = .ok (.iload_n 1, 1) := by decide +kernel
theorem dX6_ways_32 : decode cX6_ways 32 = .ok (.baload, 1) := by decide +kernel
theorem dX6_ways_33 : decode cX6_ways 33 = .ok (.ifCond .ne 6, 3) := by decide +kernel
theorem dX6_ways_36 : decode cX6_ways 36 = .ok (.bipush (-3), 2) := by decide +kernel
theorem dX6_ways_38 : decode cX6_ways 38 = .ok (.ireturn, 1) := by decide +kernel
theorem dX6_ways_39 : decode cX6_ways 39 = .ok (.iload_n 2, 1) := by decide +kernel
theorem dX6_ways_40 : decode cX6_ways 40 = .ok (.iconst 3, 1) := by decide +kernel
theorem dX6_ways_41 : decode cX6_ways 41 = .ok (.if_icmp .ge 24, 3) := by decide +kernel
theorem dX6_ways_44 : decode cX6_ways 44 = .ok (.iload_n 2, 1) := by decide +kernel
theorem dX6_ways_45 : decode cX6_ways 45 = .ok (.iconst 1, 1) := by decide +kernel
theorem dX6_ways_46 : decode cX6_ways 46 = .ok (.if_icmp .ne 12, 3) := by decide +kernel
theorem dX6_ways_49 : decode cX6_ways 49 = .ok (.aload_n 0, 1) := by decide +kernel
theorem dX6_ways_50 : decode cX6_ways 50 = .ok (.iconst 0, 1) := by decide +kernel
theorem dX6_ways_51 : decode cX6_ways 51 = .ok (.iload_n 1, 1) := by decide +kernel
theorem dX6_ways_52 : decode cX6_ways 52 = .ok (.invokevirtual 187, 3) := by decide +kernel
theorem dX6_ways_55 : decode cX6_ways 55 = .ok (.goto 9, 3) := by decide +kernel
theorem dX6_ways_58 : decode cX6_ways 58 = .ok (.aload_n 0, 1) := by decide +kernel
theorem dX6_ways_59 : decode cX6_ways 59 = .ok (.iconst 0, 1) := by decide +kernel
theorem dX6_ways_60 : decode cX6_ways 60 = .ok (.iload_n 1, 1) := by decide +kernel
theorem dX6_ways_61 : decode cX6_ways 61 = .ok (.invokevirtual 192, 3) := by decide +kernel
theorem dX6_ways_64 : decode cX6_ways 64 = .ok (.ireturn, 1) := by decide +kernel
theorem dX6_ways_65 : decode cX6_ways 65 = .ok (.aload_n 0, 1) := by decide +kernel
theorem dX6_ways_66 : decode cX6_ways 66 = .ok (.iconst 0, 1) := by decide +kernel
theorem dX6_ways_67 : decode cX6_ways 67 = .ok (.invokevirtual 130, 3) := by decide +kernel
theorem dX6_ways_70 : decode cX6_ways 70 = .ok (.istore_n 3, 1) := by decide +kernel
theorem dX6_ways_71 : decode cX6_ways 71 = .ok (.iconst 0, 1) := by decide +kernel
theorem dX6_ways_72 : decode cX6_ways 72 = .ok (.istore 4, 2) := by decide +kernel
theorem dX6_ways_74 : decode cX6_ways 74 = .ok (.iconst 0, 1) := by decide +kernel
theorem dX6_ways_75 : decode cX6_ways 75 = .ok (.istore 5, 2) := by decide +kernel
theorem dX6_ways_77 : decode cX6_ways 77 = .ok (.iload 5, 2) := by decide +kernel
theorem dX6_ways_79 : decode cX6_ways 79 = .ok (.iload_n 3, 1) := by decide +kernel
theorem dX6_ways_80 : decode cX6_ways 80 = .ok (.if_icmp .ge 34, 3) := by decide +kernel
theorem dX6_ways_83 : decode cX6_ways 83 = .ok (.aload_n 0, 1) := by decide +kernel
theorem dX6_ways_84 : decode cX6_ways 84 = .ok (.iconst 0, 1) := by decide +kernel
theorem dX6_ways_85 : decode cX6_ways 85 = .ok (.iconst 1, 1) := by decide +kernel
theorem dX6_ways_86 : decode cX6_ways 86 = .ok (.aload_n 0, 1) := by decide +kernel
theorem dX6_ways_87 : decode cX6_ways 87 = .ok (.getfield 25, 3) := by decide +kernel
theorem dX6_ways_90 : decode cX6_ways 90 = .ok (.iload 5, 2) := by decide +kernel
theorem dX6_ways_92 : decode cX6_ways 92 = .ok (.iaload, 1) := by decide +kernel
theorem dX6_ways_93 : decode cX6_ways 93 = .ok (.invokevirtual 143, 3) := by decide +kernel
theorem dX6_ways_96 : decode cX6_ways 96 = .ok (.pop, 1) := by decide +kernel
theorem dX6_ways_97 : decode cX6_ways 97 = .ok (.iload 4, 2) := by decide +kernel
theorem dX6_ways_99 : decode cX6_ways 99 = .ok (.aload_n 0, 1) := by decide +kernel
theorem dX6_ways_100 : decode cX6_ways 100 = .ok (.iconst 1, 1) := by decide +kernel
theorem dX6_ways_101 : decode cX6_ways 101 = .ok (.iload_n 1, 1) := by decide +kernel
theorem dX6_ways_102 : decode cX6_ways 102 = .ok (.invokevirtual 192, 3) := by decide +kernel
theorem dX6_ways_105 : decode cX6_ways 105 = .ok (.iadd, 1) := by decide +kernel
theorem dX6_ways_106 : decode cX6_ways 106 = .ok (.istore 4, 2) := by decide +kernel
theorem dX6_ways_108 : decode cX6_ways 108 = .ok (.iinc 5 1, 3) := by decide +kernel
theorem dX6_ways_111 : decode cX6_ways 111 = .ok (.goto (-34), 3) := by decide +kernel
theorem dX6_ways_114 : decode cX6_ways 114 = .ok (.iload 4, 2) := by decide +kernel
theorem dX6_ways_116 : decode cX6_ways 116 = .ok (.ireturn, 1) := by decide +kernel
theorem dX6_seed_0 : decode cX6_seed 0 = .ok (.aload_n 0, 1) := by decide +kernel
theorem dX6_seed_1 : decode cX6_seed 1 = .ok (.getfield 195, 3) := by decide +kernel
theorem dX6_seed_4 : decode cX6_seed 4 = .ok (.lstore_n 3, 1) := by decide +kernel
theorem dX6_seed_5 : decode cX6_seed 5 = .ok (.aload_n 0, 1) := by decide +kernel
theorem dX6_seed_6 : decode cX6_seed 6 = .ok (.lload_n 1, 1) := by decide +kernel
theorem dX6_seed_7 : decode cX6_seed 7 = .ok (.putfield 195, 3) := by decide +kernel
theorem dX6_seed_10 : decode cX6_seed 10 = .ok (.lload_n 3, 1) := by decide +kernel
theorem dX6_seed_11 : decode cX6_seed 11 = .ok (.lreturn, 1) := by decide +kernel
theorem dX6_men_0 : decode cX6_men 0 = .ok (.iconst 0, 1) := by decide +kernel
theorem dX6_men_1 : decode cX6_men 1 = .ok (.istore_n 2, 1) := by decide +kernel
theorem dX6_men_2 : decode cX6_men 2 = .ok (.iconst 0, 1) := by decide +kernel
theorem dX6_men_3 : decode cX6_men 3 = .ok (.istore_n 3, 1) := by decide +kernel
theorem dX6_men_4 : decode cX6_men 4 = .ok (.iload_n 3, 1) := by decide +kernel
theorem dX6_men_5 : decode cX6_men 5 = .ok (.aload_n 0, 1) := by decide +kernel
theorem dX6_men_6 : decode cX6_men 6 = .ok (.getfield 47, 3) := by decide +kernel
theorem dX6_men_9 : decode cX6_men 9 = .ok (.aload_n 0, 1) := by decide +kernel
theorem dX6_men_10 : decode cX6_men 10 = .ok (.getfield 51, 3) := by decide +kernel
theorem dX6_men_13 : decode cX6_men 13 = .ok (.imul, 1) := by decide +kernel
theorem dX6_men_14 : decode cX6_men 14 = .ok (.if_icmp .ge 36, 3) := by decide +kernel
theorem dX6_men_17 : decode cX6_men 17 = .ok (.iload_n 2, 1) := by decide +kernel
theorem dX6_men_18 : decode cX6_men 18 = .ok (.aload_n 0, 1) := by decide +kernel
theorem dX6_men_19 : decode cX6_men 19 = .ok (.getfield 7, 3) := by decide +kernel
theorem dX6_men_22 : decode cX6_men 22 = .ok (.bipush 16, 2) := by decide +kernel
theorem dX6_men_24 : decode cX6_men 24 = .ok (.iload_n 1, 1) := by decide +kernel
theorem dX6_men_25 : decode cX6_men 25 = .ok (.imul, 1) := by decide +kernel
theorem dX6_men_26 : decode cX6_men 26 = .ok (.iload_n 3, 1) := by decide +kernel
theorem dX6_men_27 : decode cX6_men 27 = .ok (.iadd, 1) := by decide +kernel
theorem dX6_men_28 : decode cX6_men 28 = .ok (.iaload, 1) := by decide +kernel
theorem dX6_men_29 : decode cX6_men 29 = .ok (.invokestatic 65, 3) := by decide +kernel
theorem dX6_men_32 : decode cX6_men 32 = .ok (.bipush (-9), 2) := by decide +kernel
theorem dX6_men_34 : decode cX6_men 34 = .ok (.if_icmp .eq 7, 3) := by decide +kernel
theorem dX6_men_37 : decode cX6_men 37 = .ok (.iconst 1, 1) := by decide +kernel
theorem dX6_men_38 : decode cX6_men 38 = .ok (.goto 4, 3) := by decide +kernel
theorem dX6_men_41 : decode cX6_men 41 = .ok (.iconst 0, 1) := by decide +kernel
theorem dX6_men_42 : decode cX6_men 42 = .ok (.iadd, 1) := by decide +kernel
theorem dX6_men_43 : decode cX6_men 43 = .ok (.istore_n 2, 1) := by decide +kernel
theorem dX6_men_44 : decode cX6_men 44 = .ok (.iinc 3 1, 3) := by decide +kernel
theorem dX6_men_47 : decode cX6_men 47 = .ok (.goto (-43), 3) := by decide +kernel
theorem dX6_men_50 : decode cX6_men 50 = .ok (.iload_n 2, 1) := by decide +kernel
theorem dX6_men_51 : decode cX6_men 51 = .ok (.ireturn, 1) := by decide +kernel
theorem dX6_play_0 : decode cX6_play 0 = .ok (.iload_n 1, 1) := by decide +kernel
theorem dX6_play_1 : decode cX6_play 1 = .ok (.i2l, 1) := by decide +kernel
theorem dX6_play_2 : decode cX6_play 2 = .ok (.lconst 1, 1) := by decide +kernel
theorem dX6_play_3 : decode cX6_play 3 = .ok (.ldc2_w 199, 3) := by decide +kernel
theorem dX6_play_6 : decode cX6_play 6 = .ok (.invokestatic 56, 3) := by decide +kernel
theorem dX6_play_9 : decode cX6_play 9 = .ok (.ifCond .ne 6, 3) := by decide +kernel
theorem dX6_play_12 : decode cX6_play 12 = .ok (.bipush (-2), 2) := by decide +kernel
theorem dX6_play_14 : decode cX6_play 14 = .ok (.ireturn, 1) := by decide +kernel
theorem dX6_play_15 : decode cX6_play 15 = .ok (.iconst 0, 1) := by decide +kernel
theorem dX6_play_16 : decode cX6_play 16 = .ok (.istore_n 2, 1) := by decide +kernel
theorem dX6_play_17 : decode cX6_play 17 = .ok (.iconst 0, 1) := by decide +kernel
theorem dX6_play_18 : decode cX6_play 18 = .ok (.istore_n 3, 1) := by decide +kernel
theorem dX6_play_19 : decode cX6_play 19 = .ok (.iload_n 3, 1) := by decide +kernel
theorem dX6_play_20 : decode cX6_play 20 = .ok (.iload_n 1, 1) := by decide +kernel
theorem dX6_play_21 : decode cX6_play 21 = .ok (.if_icmp .ge 75, 3) := by decide +kernel
theorem dX6_play_24 : decode cX6_play 24 = .ok (.aload_n 0, 1) := by decide +kernel
theorem dX6_play_25 : decode cX6_play 25 = .ok (.getfield 19, 3) := by decide +kernel
theorem dX6_play_28 : decode cX6_play 28 = .ok (.iload_n 2, 1) := by decide +kernel
theorem dX6_play_29 : decode cX6_play 29 = .ok (.iaload, 1) := by decide +kernel
theorem dX6_play_30 : decode cX6_play 30 = .ok (.bipush (-9), 2) := by decide +kernel
theorem dX6_play_32 : decode cX6_play 32 = .ok (.if_icmp .ne 64, 3) := by decide +kernel
theorem dX6_play_35 : decode cX6_play 35 = .ok (.aload_n 0, 1) := by decide +kernel
theorem dX6_play_36 : decode cX6_play 36 = .ok (.iload_n 2, 1) := by decide +kernel
theorem dX6_play_37 : decode cX6_play 37 = .ok (.invokevirtual 130, 3) := by decide +kernel
theorem dX6_play_40 : decode cX6_play 40 = .ok (.istore 4, 2) := by decide +kernel
theorem dX6_play_42 : decode cX6_play 42 = .ok (.aload_n 0, 1) := by decide +kernel
theorem dX6_play_43 : decode cX6_play 43 = .ok (.aload_n 0, 1) := by decide +kernel
theorem dX6_play_44 : decode cX6_play 44 = .ok (.getfield 195, 3) := by decide +kernel
theorem dX6_play_47 : decode cX6_play 47 = .ok (.ldc2_w 201, 3) := by decide +kernel
theorem dX6_play_50 : decode cX6_play 50 = .ok (.lmul, 1) := by decide +kernel
theorem dX6_play_51 : decode cX6_play 51 = .ok (.ldc2_w 203, 3) := by decide +kernel
theorem dX6_play_54 : decode cX6_play 54 = .ok (.ladd, 1) := by decide +kernel
theorem dX6_play_55 : decode cX6_play 55 = .ok (.putfield 195, 3) := by decide +kernel
theorem dX6_play_58 : decode cX6_play 58 = .ok (.aload_n 0, 1) := by decide +kernel
theorem dX6_play_59 : decode cX6_play 59 = .ok (.iload_n 2, 1) := by decide +kernel
theorem dX6_play_60 : decode cX6_play 60 = .ok (.iconst 1, 1) := by decide +kernel
theorem dX6_play_61 : decode cX6_play 61 = .ok (.aload_n 0, 1) := by decide +kernel
theorem dX6_play_62 : decode cX6_play 62 = .ok (.getfield 25, 3) := by decide +kernel
theorem dX6_play_65 : decode cX6_play 65 = .ok (.sipush 256, 3) := by decide +kernel
theorem dX6_play_68 : decode cX6_play 68 = .ok (.iload_n 2, 1) := by decide +kernel
theorem dX6_play_69 : decode cX6_play 69 = .ok (.imul, 1) := by decide +kernel
theorem dX6_play_70 : decode cX6_play 70 = .ok (.aload_n 0, 1) := by decide +kernel
theorem dX6_play_71 : decode cX6_play 71 = .ok (.getfield 195, 3) := by decide +kernel
theorem dX6_play_74 : decode cX6_play 74 = .ok (.bipush 33, 2) := by decide +kernel
theorem dX6_play_76 : decode cX6_play 76 = .ok (.lushr, 1) := by decide +kernel
theorem dX6_play_77 : decode cX6_play 77 = .ok (.iload 4, 2) := by decide +kernel
theorem dX6_play_79 : decode cX6_play 79 = .ok (.i2l, 1) := by decide +kernel
theorem dX6_play_80 : decode cX6_play 80 = .ok (.lrem, 1) := by decide +kernel
theorem dX6_play_81 : decode cX6_play 81 = .ok (.l2i, 1) := by decide +kernel
theorem dX6_play_82 : decode cX6_play 82 = .ok (.iadd, 1) := by decide +kernel
theorem dX6_play_83 : decode cX6_play 83 = .ok (.iaload, 1) := by decide +kernel
theorem dX6_play_84 : decode cX6_play 84 = .ok (.invokevirtual 143, 3) := by decide +kernel
theorem dX6_play_87 : decode cX6_play 87 = .ok (.pop, 1) := by decide +kernel
theorem dX6_play_88 : decode cX6_play 88 = .ok (.iconst 1, 1) := by decide +kernel
theorem dX6_play_89 : decode cX6_play 89 = .ok (.istore_n 2, 1) := by decide +kernel
theorem dX6_play_90 : decode cX6_play 90 = .ok (.iinc 3 1, 3) := by decide +kernel
theorem dX6_play_93 : decode cX6_play 93 = .ok (.goto (-74), 3) := by decide +kernel
theorem dX6_play_96 : decode cX6_play 96 = .ok (.aload_n 0, 1) := by decide +kernel
theorem dX6_play_97 : decode cX6_play 97 = .ok (.iload_n 2, 1) := by decide +kernel
theorem dX6_play_98 : decode cX6_play 98 = .ok (.invokevirtual 205, 3) := by decide +kernel
theorem dX6_play_101 : decode cX6_play 101 = .ok (.ireturn, 1) := by decide +kernel
theorem dX6_keep_0 : decode cX6_keep 0 = .ok (.iload_n 1, 1) := by decide +kernel
theorem dX6_keep_1 : decode cX6_keep 1 = .ok (.i2l, 1) := by decide +kernel
theorem dX6_keep_2 : decode cX6_keep 2 = .ok (.lconst 0, 1) := by decide +kernel
theorem dX6_keep_3 : decode cX6_keep 3 = .ok (.lconst 1, 1) := by decide +kernel
theorem dX6_keep_4 : decode cX6_keep 4 = .ok (.invokestatic 56, 3) := by decide +kernel
theorem dX6_keep_7 : decode cX6_keep 7 = .ok (.ifCond .ne 5, 3) := by decide +kernel
theorem dX6_keep_10 : decode cX6_keep 10 = .ok (.iconst (-1), 1) := by decide +kernel
theorem dX6_keep_11 : decode cX6_keep 11 = .ok (.ireturn, 1) := by decide +kernel
theorem dX6_keep_12 : decode cX6_keep 12 = .ok (.aload_n 0, 1) := by decide +kernel
theorem dX6_keep_13 : decode cX6_keep 13 = .ok (.getfield 40, 3) := by decide +kernel
theorem dX6_keep_16 : decode cX6_keep 16 = .ok (.iload_n 1, 1) := by decide +kernel
theorem dX6_keep_17 : decode cX6_keep 17 = .ok (.iconst 1, 1) := by decide +kernel
theorem dX6_keep_18 : decode cX6_keep 18 = .ok (.bastore, 1) := by decide +kernel
theorem dX6_keep_19 : decode cX6_keep 19 = .ok (.iconst 0, 1) := by decide +kernel
theorem dX6_keep_20 : decode cX6_keep 20 = .ok (.istore_n 2, 1) := by decide +kernel
theorem dX6_keep_21 : decode cX6_keep 21 = .ok (.iload_n 2, 1) := by decide +kernel
theorem dX6_keep_22 : decode cX6_keep 22 = .ok (.bipush 16, 2) := by decide +kernel
theorem dX6_keep_24 : decode cX6_keep 24 = .ok (.if_icmp .ge 46, 3) := by decide +kernel
theorem dX6_keep_27 : decode cX6_keep 27 = .ok (.aload_n 0, 1) := by decide +kernel
theorem dX6_keep_28 : decode cX6_keep 28 = .ok (.getfield 44, 3) := by decide +kernel
theorem dX6_keep_31 : decode cX6_keep 31 = .ok (.bipush 34, 2) := by decide +kernel
theorem dX6_keep_33 : decode cX6_keep 33 = .ok (.iload_n 1, 1) := by decide +kernel
theorem dX6_keep_34 : decode cX6_keep 34 = .ok (.imul, 1) := by decide +kernel
theorem dX6_keep_35 : decode cX6_keep 35 = .ok (.iload_n 2, 1) := by decide +kernel
theorem dX6_keep_36 : decode cX6_keep 36 = .ok (.iadd, 1) := by decide +kernel
theorem dX6_keep_37 : decode cX6_keep 37 = .ok (.aload_n 0, 1) := by decide +kernel
theorem dX6_keep_38 : decode cX6_keep 38 = .ok (.getfield 7, 3) := by decide +kernel
theorem dX6_keep_41 : decode cX6_keep 41 = .ok (.iload_n 2, 1) := by decide +kernel
theorem dX6_keep_42 : decode cX6_keep 42 = .ok (.iaload, 1) := by decide +kernel
theorem dX6_keep_43 : decode cX6_keep 43 = .ok (.iastore, 1) := by decide +kernel
theorem dX6_keep_44 : decode cX6_keep 44 = .ok (.aload_n 0, 1) := by decide +kernel
theorem dX6_keep_45 : decode cX6_keep 45 = .ok (.getfield 44, 3) := by decide +kernel
theorem dX6_keep_48 : decode cX6_keep 48 = .ok (.bipush 34, 2) := by decide +kernel
theorem dX6_keep_50 : decode cX6_keep 50 = .ok (.iload_n 1, 1) := by decide +kernel
theorem dX6_keep_51 : decode cX6_keep 51 = .ok (.imul, 1) := by decide +kernel
theorem dX6_keep_52 : decode cX6_keep 52 = .ok (.bipush 16, 2) := by decide +kernel
theorem dX6_keep_54 : decode cX6_keep 54 = .ok (.iadd, 1) := by decide +kernel
theorem dX6_keep_55 : decode cX6_keep 55 = .ok (.iload_n 2, 1) := by decide +kernel
theorem dX6_keep_56 : decode cX6_keep 56 = .ok (.iadd, 1) := by decide +kernel
theorem dX6_keep_57 : decode cX6_keep 57 = .ok (.aload_n 0, 1) := by decide +kernel
theorem dX6_keep_58 : decode cX6_keep 58 = .ok (.getfield 13, 3) := by decide +kernel
theorem dX6_keep_61 : decode cX6_keep 61 = .ok (.iload_n 2, 1) := by decide +kernel
theorem dX6_keep_62 : decode cX6_keep 62 = .ok (.iaload, 1) := by decide +kernel
theorem dX6_keep_63 : decode cX6_keep 63 = .ok (.iastore, 1) := by decide +kernel
theorem dX6_keep_64 : decode cX6_keep 64 = .ok (.iinc 2 1, 3) := by decide +kernel
theorem dX6_keep_67 : decode cX6_keep 67 = .ok (.goto (-46), 3) := by decide +kernel
theorem dX6_keep_70 : decode cX6_keep 70 = .ok (.aload_n 0, 1) := by decide +kernel
theorem dX6_keep_71 : decode cX6_keep 71 = .ok (.getfield 44, 3) := by decide +kernel
theorem dX6_keep_74 : decode cX6_keep 74 = .ok (.bipush 34, 2) := by decide +kernel
theorem dX6_keep_76 : decode cX6_keep 76 = .ok (.iload_n 1, 1) := by decide +kernel
theorem dX6_keep_77 : decode cX6_keep 77 = .ok (.imul, 1) := by decide +kernel
theorem dX6_keep_78 : decode cX6_keep 78 = .ok (.bipush 32, 2) := by decide +kernel
theorem dX6_keep_80 : decode cX6_keep 80 = .ok (.iadd, 1) := by decide +kernel
theorem dX6_keep_81 : decode cX6_keep 81 = .ok (.aload_n 0, 1) := by decide +kernel
theorem dX6_keep_82 : decode cX6_keep 82 = .ok (.getfield 16, 3) := by decide +kernel
theorem dX6_keep_85 : decode cX6_keep 85 = .ok (.iconst 0, 1) := by decide +kernel
theorem dX6_keep_86 : decode cX6_keep 86 = .ok (.iaload, 1) := by decide +kernel
theorem dX6_keep_87 : decode cX6_keep 87 = .ok (.iastore, 1) := by decide +kernel
theorem dX6_keep_88 : decode cX6_keep 88 = .ok (.aload_n 0, 1) := by decide +kernel
theorem dX6_keep_89 : decode cX6_keep 89 = .ok (.getfield 44, 3) := by decide +kernel
theorem dX6_keep_92 : decode cX6_keep 92 = .ok (.bipush 34, 2) := by decide +kernel
theorem dX6_keep_94 : decode cX6_keep 94 = .ok (.iload_n 1, 1) := by decide +kernel
theorem dX6_keep_95 : decode cX6_keep 95 = .ok (.imul, 1) := by decide +kernel
theorem dX6_keep_96 : decode cX6_keep 96 = .ok (.bipush 33, 2) := by decide +kernel
theorem dX6_keep_98 : decode cX6_keep 98 = .ok (.iadd, 1) := by decide +kernel
theorem dX6_keep_99 : decode cX6_keep 99 = .ok (.aload_n 0, 1) := by decide +kernel
theorem dX6_keep_100 : decode cX6_keep 100 = .ok (.getfield 19, 3) := by decide +kernel
theorem dX6_keep_103 : decode cX6_keep 103 = .ok (.iconst 0, 1) := by decide +kernel
theorem dX6_keep_104 : decode cX6_keep 104 = .ok (.iaload, 1) := by decide +kernel
theorem dX6_keep_105 : decode cX6_keep 105 = .ok (.iastore, 1) := by decide +kernel
theorem dX6_keep_106 : decode cX6_keep 106 = .ok (.aload_n 0, 1) := by decide +kernel
theorem dX6_keep_107 : decode cX6_keep 107 = .ok (.iconst 0, 1) := by decide +kernel
theorem dX6_keep_108 : decode cX6_keep 108 = .ok (.invokevirtual 205, 3) := by decide +kernel
theorem dX6_keep_111 : decode cX6_keep 111 = .ok (.ireturn, 1) := by decide +kernel
theorem dX6_again_0 : decode cX6_again 0 = .ok (.iload_n 1, 1) := by decide +kernel
theorem dX6_again_1 : decode cX6_again 1 = .ok (.i2l, 1) := by decide +kernel
theorem dX6_again_2 : decode cX6_again 2 = .ok (.lconst 0, 1) := by decide +kernel
theorem dX6_again_3 : decode cX6_again 3 = .ok (.lconst 1, 1) := by decide +kernel
theorem dX6_again_4 : decode cX6_again 4 = .ok (.invokestatic 56, 3) := by decide +kernel
theorem dX6_again_7 : decode cX6_again 7 = .ok (.ifCond .ne 5, 3) := by decide +kernel
theorem dX6_again_10 : decode cX6_again 10 = .ok (.iconst (-1), 1) := by decide +kernel
theorem dX6_again_11 : decode cX6_again 11 = .ok (.ireturn, 1) := by decide +kernel
theorem dX6_again_12 : decode cX6_again 12 = .ok (.aload_n 0, 1) := by decide +kernel
theorem dX6_again_13 : decode cX6_again 13 = .ok (.getfield 40, 3) := by decide +kernel
theorem dX6_again_16 : decode cX6_again 16 = .ok (.iload_n 1, 1) := by decide +kernel
theorem dX6_again_17 : decode cX6_again 17 = .ok (.baload, 1) := by decide +kernel
theorem dX6_again_18 : decode cX6_again 18 = .ok (.ifCond .ne 6, 3) := by decide +kernel
theorem dX6_again_21 : decode cX6_again 21 = .ok (.bipush (-3), 2) := by decide +kernel
theorem dX6_again_23 : decode cX6_again 23 = .ok (.ireturn, 1) := by decide +kernel
theorem dX6_again_24 : decode cX6_again 24 = .ok (.iconst 0, 1) := by decide +kernel
theorem dX6_again_25 : decode cX6_again 25 = .ok (.istore_n 2, 1) := by decide +kernel
theorem dX6_again_26 : decode cX6_again 26 = .ok (.iload_n 2, 1) := by decide +kernel
theorem dX6_again_27 : decode cX6_again 27 = .ok (.bipush 16, 2) := by decide +kernel
theorem dX6_again_29 : decode cX6_again 29 = .ok (.if_icmp .ge 46, 3) := by decide +kernel
theorem dX6_again_32 : decode cX6_again 32 = .ok (.aload_n 0, 1) := by decide +kernel
theorem dX6_again_33 : decode cX6_again 33 = .ok (.getfield 7, 3) := by decide +kernel
theorem dX6_again_36 : decode cX6_again 36 = .ok (.iload_n 2, 1) := by decide +kernel
theorem dX6_again_37 : decode cX6_again 37 = .ok (.aload_n 0, 1) := by decide +kernel
theorem dX6_again_38 : decode cX6_again 38 = .ok (.getfield 44, 3) := by decide +kernel
theorem dX6_again_41 : decode cX6_again 41 = .ok (.bipush 34, 2) := by decide +kernel
theorem dX6_again_43 : decode cX6_again 43 = .ok (.iload_n 1, 1) := by decide +kernel
theorem dX6_again_44 : decode cX6_again 44 = .ok (.imul, 1) := by decide +kernel
theorem dX6_again_45 : decode cX6_again 45 = .ok (.iload_n 2, 1) := by decide +kernel
theorem dX6_again_46 : decode cX6_again 46 = .ok (.iadd, 1) := by decide +kernel
theorem dX6_again_47 : decode cX6_again 47 = .ok (.iaload, 1) := by decide +kernel
theorem dX6_again_48 : decode cX6_again 48 = .ok (.iastore, 1) := by decide +kernel
theorem dX6_again_49 : decode cX6_again 49 = .ok (.aload_n 0, 1) := by decide +kernel
theorem dX6_again_50 : decode cX6_again 50 = .ok (.getfield 13, 3) := by decide +kernel
theorem dX6_again_53 : decode cX6_again 53 = .ok (.iload_n 2, 1) := by decide +kernel
theorem dX6_again_54 : decode cX6_again 54 = .ok (.aload_n 0, 1) := by decide +kernel
theorem dX6_again_55 : decode cX6_again 55 = .ok (.getfield 44, 3) := by decide +kernel
theorem dX6_again_58 : decode cX6_again 58 = .ok (.bipush 34, 2) := by decide +kernel
theorem dX6_again_60 : decode cX6_again 60 = .ok (.iload_n 1, 1) := by decide +kernel
theorem dX6_again_61 : decode cX6_again 61 = .ok (.imul, 1) := by decide +kernel
theorem dX6_again_62 : decode cX6_again 62 = .ok (.bipush 16, 2) := by decide +kernel
theorem dX6_again_64 : decode cX6_again 64 = .ok (.iadd, 1) := by decide +kernel
theorem dX6_again_65 : decode cX6_again 65 = .ok (.iload_n 2, 1) := by decide +kernel
theorem dX6_again_66 : decode cX6_again 66 = .ok (.iadd, 1) := by decide +kernel
theorem dX6_again_67 : decode cX6_again 67 = .ok (.iaload, 1) := by decide +kernel
theorem dX6_again_68 : decode cX6_again 68 = .ok (.iastore, 1) := by decide +kernel
theorem dX6_again_69 : decode cX6_again 69 = .ok (.iinc 2 1, 3) := by decide +kernel
theorem dX6_again_72 : decode cX6_again 72 = .ok (.goto (-46), 3) := by decide +kernel
theorem dX6_again_75 : decode cX6_again 75 = .ok (.aload_n 0, 1) := by decide +kernel
theorem dX6_again_76 : decode cX6_again 76 = .ok (.getfield 16, 3) := by decide +kernel
theorem dX6_again_79 : decode cX6_again 79 = .ok (.iconst 0, 1) := by decide +kernel
theorem dX6_again_80 : decode cX6_again 80 = .ok (.aload_n 0, 1) := by decide +kernel
theorem dX6_again_81 : decode cX6_again 81 = .ok (.getfield 44, 3) := by decide +kernel
theorem dX6_again_84 : decode cX6_again 84 = .ok (.bipush 34, 2) := by decide +kernel
theorem dX6_again_86 : decode cX6_again 86 = .ok (.iload_n 1, 1) := by decide +kernel
theorem dX6_again_87 : decode cX6_again 87 = .ok (.imul, 1) := by decide +kernel
theorem dX6_again_88 : decode cX6_again 88 = .ok (.bipush 32, 2) := by decide +kernel
theorem dX6_again_90 : decode cX6_again 90 = .ok (.iadd, 1) := by decide +kernel
theorem dX6_again_91 : decode cX6_again 91 = .ok (.iaload, 1) := by decide +kernel
theorem dX6_again_92 : decode cX6_again 92 = .ok (.iastore, 1) := by decide +kernel
theorem dX6_again_93 : decode cX6_again 93 = .ok (.aload_n 0, 1) := by decide +kernel
theorem dX6_again_94 : decode cX6_again 94 = .ok (.getfield 19, 3) := by decide +kernel
theorem dX6_again_97 : decode cX6_again 97 = .ok (.iconst 0, 1) := by decide +kernel
theorem dX6_again_98 : decode cX6_again 98 = .ok (.aload_n 0, 1) := by decide +kernel
theorem dX6_again_99 : decode cX6_again 99 = .ok (.getfield 44, 3) := by decide +kernel
theorem dX6_again_102 : decode cX6_again 102 = .ok (.bipush 34, 2) := by decide +kernel
theorem dX6_again_104 : decode cX6_again 104 = .ok (.iload_n 1, 1) := by decide +kernel
theorem dX6_again_105 : decode cX6_again 105 = .ok (.imul, 1) := by decide +kernel
theorem dX6_again_106 : decode cX6_again 106 = .ok (.bipush 33, 2) := by decide +kernel
theorem dX6_again_108 : decode cX6_again 108 = .ok (.iadd, 1) := by decide +kernel
theorem dX6_again_109 : decode cX6_again 109 = .ok (.iaload, 1) := by decide +kernel
theorem dX6_again_110 : decode cX6_again 110 = .ok (.iastore, 1) := by decide +kernel
theorem dX6_again_111 : decode cX6_again 111 = .ok (.aload_n 0, 1) := by decide +kernel
theorem dX6_again_112 : decode cX6_again 112 = .ok (.iconst 0, 1) := by decide +kernel
theorem dX6_again_113 : decode cX6_again 113 = .ok (.putfield 91, 3) := by decide +kernel
theorem dX6_again_116 : decode cX6_again 116 = .ok (.aload_n 0, 1) := by decide +kernel
theorem dX6_again_117 : decode cX6_again 117 = .ok (.iconst 0, 1) := by decide +kernel
theorem dX6_again_118 : decode cX6_again 118 = .ok (.invokevirtual 205, 3) := by decide +kernel
theorem dX6_again_121 : decode cX6_again 121 = .ok (.ireturn, 1) := by decide +kernel
theorem dX6_setOf_0 : decode cX6_setOf 0 = .ok (.iconst 0, 1) := by decide +kernel
theorem dX6_setOf_1 : decode cX6_setOf 1 = .ok (.istore_n 2, 1) := by decide +kernel
theorem dX6_setOf_2 : decode cX6_setOf 2 = .ok (.iconst 0, 1) := by decide +kernel
theorem dX6_setOf_3 : decode cX6_setOf 3 = .ok (.istore_n 3, 1) := by decide +kernel
theorem dX6_setOf_4 : decode cX6_setOf 4 = .ok (.iload_n 3, 1) := by decide +kernel
theorem dX6_setOf_5 : decode cX6_setOf 5 = .ok (.aload_n 0, 1) := by decide +kernel
theorem dX6_setOf_6 : decode cX6_setOf 6 = .ok (.getfield 47, 3) := by decide +kernel
theorem dX6_setOf_9 : decode cX6_setOf 9 = .ok (.aload_n 0, 1) := by decide +kernel
theorem dX6_setOf_10 : decode cX6_setOf 10 = .ok (.getfield 51, 3) := by decide +kernel
theorem dX6_setOf_13 : decode cX6_setOf 13 = .ok (.imul, 1) := by decide +kernel
theorem dX6_setOf_14 : decode cX6_setOf 14 = .ok (.if_icmp .ge 32, 3) := by decide +kernel
theorem dX6_setOf_17 : decode cX6_setOf 17 = .ok (.iload_n 2, 1) := by decide +kernel
theorem dX6_setOf_18 : decode cX6_setOf 18 = .ok (.aload_n 0, 1) := by decide +kernel
theorem dX6_setOf_19 : decode cX6_setOf 19 = .ok (.getfield 7, 3) := by decide +kernel
theorem dX6_setOf_22 : decode cX6_setOf 22 = .ok (.iload_n 3, 1) := by decide +kernel
theorem dX6_setOf_23 : decode cX6_setOf 23 = .ok (.iaload, 1) := by decide +kernel
theorem dX6_setOf_24 : decode cX6_setOf 24 = .ok (.invokestatic 65, 3) := by decide +kernel
theorem dX6_setOf_27 : decode cX6_setOf 27 = .ok (.iload_n 1, 1) := by decide +kernel
theorem dX6_setOf_28 : decode cX6_setOf 28 = .ok (.if_icmp .ne 9, 3) := by decide +kernel
theorem dX6_setOf_31 : decode cX6_setOf 31 = .ok (.iconst 1, 1) := by decide +kernel
theorem dX6_setOf_32 : decode cX6_setOf 32 = .ok (.iload_n 3, 1) := by decide +kernel
theorem dX6_setOf_33 : decode cX6_setOf 33 = .ok (.ishl, 1) := by decide +kernel
theorem dX6_setOf_34 : decode cX6_setOf 34 = .ok (.goto 4, 3) := by decide +kernel
theorem dX6_setOf_37 : decode cX6_setOf 37 = .ok (.iconst 0, 1) := by decide +kernel
theorem dX6_setOf_38 : decode cX6_setOf 38 = .ok (.ior, 1) := by decide +kernel
theorem dX6_setOf_39 : decode cX6_setOf 39 = .ok (.istore_n 2, 1) := by decide +kernel
theorem dX6_setOf_40 : decode cX6_setOf 40 = .ok (.iinc 3 1, 3) := by decide +kernel
theorem dX6_setOf_43 : decode cX6_setOf 43 = .ok (.goto (-39), 3) := by decide +kernel
theorem dX6_setOf_46 : decode cX6_setOf 46 = .ok (.iload_n 2, 1) := by decide +kernel
theorem dX6_setOf_47 : decode cX6_setOf 47 = .ok (.ireturn, 1) := by decide +kernel
theorem dX6_count_0 : decode cX6_count 0 = .ok (.iconst 0, 1) := by decide +kernel
theorem dX6_count_1 : decode cX6_count 1 = .ok (.istore_n 2, 1) := by decide +kernel
theorem dX6_count_2 : decode cX6_count 2 = .ok (.iconst 0, 1) := by decide +kernel
theorem dX6_count_3 : decode cX6_count 3 = .ok (.istore_n 3, 1) := by decide +kernel
theorem dX6_count_4 : decode cX6_count 4 = .ok (.iload_n 3, 1) := by decide +kernel
theorem dX6_count_5 : decode cX6_count 5 = .ok (.aload_n 0, 1) := by decide +kernel
theorem dX6_count_6 : decode cX6_count 6 = .ok (.getfield 47, 3) := by decide +kernel
theorem dX6_count_9 : decode cX6_count 9 = .ok (.aload_n 0, 1) := by decide +kernel
theorem dX6_count_10 : decode cX6_count 10 = .ok (.getfield 51, 3) := by decide +kernel
theorem dX6_count_13 : decode cX6_count 13 = .ok (.imul, 1) := by decide +kernel
theorem dX6_count_14 : decode cX6_count 14 = .ok (.if_icmp .ge 30, 3) := by decide +kernel
theorem dX6_count_17 : decode cX6_count 17 = .ok (.iload_n 2, 1) := by decide +kernel
theorem dX6_count_18 : decode cX6_count 18 = .ok (.aload_n 0, 1) := by decide +kernel
theorem dX6_count_19 : decode cX6_count 19 = .ok (.getfield 7, 3) := by decide +kernel
theorem dX6_count_22 : decode cX6_count 22 = .ok (.iload_n 3, 1) := by decide +kernel
theorem dX6_count_23 : decode cX6_count 23 = .ok (.iaload, 1) := by decide +kernel
theorem dX6_count_24 : decode cX6_count 24 = .ok (.bipush 35, 2) := by decide +kernel
theorem dX6_count_26 : decode cX6_count 26 = .ok (.if_icmp .ne 9, 3) := by decide +kernel
theorem dX6_count_29 : decode cX6_count 29 = .ok (.iconst 1, 1) := by decide +kernel
theorem dX6_count_30 : decode cX6_count 30 = .ok (.iload_n 3, 1) := by decide +kernel
theorem dX6_count_31 : decode cX6_count 31 = .ok (.ishl, 1) := by decide +kernel
theorem dX6_count_32 : decode cX6_count 32 = .ok (.goto 4, 3) := by decide +kernel
theorem dX6_count_35 : decode cX6_count 35 = .ok (.iconst 0, 1) := by decide +kernel
theorem dX6_count_36 : decode cX6_count 36 = .ok (.ior, 1) := by decide +kernel
theorem dX6_count_37 : decode cX6_count 37 = .ok (.istore_n 2, 1) := by decide +kernel
theorem dX6_count_38 : decode cX6_count 38 = .ok (.iinc 3 1, 3) := by decide +kernel
theorem dX6_count_41 : decode cX6_count 41 = .ok (.goto (-37), 3) := by decide +kernel
theorem dX6_count_44 : decode cX6_count 44 = .ok (.iload_n 1, 1) := by decide +kernel
theorem dX6_count_45 : decode cX6_count 45 = .ok (.tableswitch 108 0 9 #[55, 60, 65, 70, 75, 82, 88, 94, 96, 101], 55) := by decide +kernel
theorem dX6_count_100 : decode cX6_count 100 = .ok (.aload_n 0, 1) := by decide +kernel
theorem dX6_count_101 : decode cX6_count 101 = .ok (.getfield 60, 3) := by decide +kernel
theorem dX6_count_104 : decode cX6_count 104 = .ok (.ireturn, 1) := by decide +kernel
theorem dX6_count_105 : decode cX6_count 105 = .ok (.aload_n 0, 1) := by decide +kernel
theorem dX6_count_106 : decode cX6_count 106 = .ok (.getfield 47, 3) := by decide +kernel
theorem dX6_count_109 : decode cX6_count 109 = .ok (.ireturn, 1) := by decide +kernel
theorem dX6_count_110 : decode cX6_count 110 = .ok (.aload_n 0, 1) := by decide +kernel
theorem dX6_count_111 : decode cX6_count 111 = .ok (.getfield 51, 3) := by decide +kernel
theorem dX6_count_114 : decode cX6_count 114 = .ok (.ireturn, 1) := by decide +kernel
theorem dX6_count_115 : decode cX6_count 115 = .ok (.aload_n 0, 1) := by decide +kernel
theorem dX6_count_116 : decode cX6_count 116 = .ok (.getfield 88, 3) := by decide +kernel
theorem dX6_count_119 : decode cX6_count 119 = .ok (.ireturn, 1) := by decide +kernel
theorem dX6_count_120 : decode cX6_count 120 = .ok (.aload_n 0, 1) := by decide +kernel
theorem dX6_count_121 : decode cX6_count 121 = .ok (.getfield 16, 3) := by decide +kernel
theorem dX6_count_124 : decode cX6_count 124 = .ok (.iconst 0, 1) := by decide +kernel
theorem dX6_count_125 : decode cX6_count 125 = .ok (.iaload, 1) := by decide +kernel
theorem dX6_count_126 : decode cX6_count 126 = .ok (.ireturn, 1) := by decide +kernel
theorem dX6_count_127 : decode cX6_count 127 = .ok (.aload_n 0, 1) := by decide +kernel
theorem dX6_count_128 : decode cX6_count 128 = .ok (.iconst 0, 1) := by decide +kernel
theorem dX6_count_129 : decode cX6_count 129 = .ok (.invokevirtual 208, 3) := by decide +kernel
theorem dX6_count_132 : decode cX6_count 132 = .ok (.ireturn, 1) := by decide +kernel
theorem dX6_count_133 : decode cX6_count 133 = .ok (.aload_n 0, 1) := by decide +kernel
theorem dX6_count_134 : decode cX6_count 134 = .ok (.iconst 1, 1) := by decide +kernel
theorem dX6_count_135 : decode cX6_count 135 = .ok (.invokevirtual 208, 3) := by decide +kernel
theorem dX6_count_138 : decode cX6_count 138 = .ok (.ireturn, 1) := by decide +kernel
theorem dX6_count_139 : decode cX6_count 139 = .ok (.iload_n 2, 1) := by decide +kernel
theorem dX6_count_140 : decode cX6_count 140 = .ok (.ireturn, 1) := by decide +kernel
theorem dX6_count_141 : decode cX6_count 141 = .ok (.aload_n 0, 1) := by decide +kernel
theorem dX6_count_142 : decode cX6_count 142 = .ok (.getfield 91, 3) := by decide +kernel
theorem dX6_count_145 : decode cX6_count 145 = .ok (.ireturn, 1) := by decide +kernel
theorem dX6_count_146 : decode cX6_count 146 = .ok (.aload_n 0, 1) := by decide +kernel
theorem dX6_count_147 : decode cX6_count 147 = .ok (.getfield 19, 3) := by decide +kernel
theorem dX6_count_150 : decode cX6_count 150 = .ok (.iconst 0, 1) := by decide +kernel
theorem dX6_count_151 : decode cX6_count 151 = .ok (.iaload, 1) := by decide +kernel
theorem dX6_count_152 : decode cX6_count 152 = .ok (.ireturn, 1) := by decide +kernel
theorem dX6_count_153 : decode cX6_count 153 = .ok (.bipush (-2), 2) := by decide +kernel
theorem dX6_count_155 : decode cX6_count 155 = .ok (.ireturn, 1) := by decide +kernel
end
section
/-! THE LAYER: a method's activation told purely. Refs are places in a static shape; all reference fields of the system are final. -/
abbrev MemI : Type := Nat → Nat → Int32
abbrev MemJ : Type := Nat → Nat → Int64
abbrev Shp : Type := List (Nat × Nat × Nat) × (Nat → Nat → Option Nat)
abbrev Mth : Type := MethodName × ByteArray × Nat × Option FieldType
abbrev Pst : Type := Option Value → MemI → MemJ → Prop
abbrev Lcs : Type := List (Nat × Value)
def TB : List Cond := lw_tbl.filter goodWord
theorem tb_in {w : Cond} (i : Nat) (h : lw_tbl[i]? = some w ∧ goodWord w = true) : w ∈ TB := List.mem_filter.mpr ⟨List.mem_of_getElem? h.1, h.2⟩
theorem tb_ok {w : Cond} (h : w ∈ TB) : w ∈ lw_tbl := (List.mem_filter.mp h).1
theorem tb_good {w : Cond} (h : w ∈ TB) : goodWord w = true := (List.mem_filter.mp h).2
def uI (I : MemI) (a k : Nat) (v : Int32) : MemI := fun b j => if b = a ∧ j = k then v else I b j
def uJ (J : MemJ) (a k : Nat) (v : Int64) : MemJ := fun b j => if b = a ∧ j = k then v else J b j
def cTb (ci : Nat) : u_T := match ci with
  | 0 => TX0 | 1 => TX1 | 2 => TX2 | 3 => TX3 | 4 => TX4 | 5 => TX5 | _ => TX6
def cNm (ci : Nat) : String := match ci with
  | 0 => RX0 | 1 => RX1 | 2 => RX2 | 3 => RX3 | 4 => RX4 | 5 => RX5 | _ => RX6
def cTy (ci : Nat) : Nat → FieldType := match ci with
  | 0 => tyX0 | 1 => tyX1 | 2 => tyX2 | 3 => tyX3 | 4 => tyX4 | 5 => tyX5 | _ => tyX6
def cNf (ci : Nat) : Nat := match ci with
  | 0 => 9 | 1 => 3 | 2 => 11 | 3 => 4 | 4 => 2 | 5 => 8 | _ => 19
theorem cl_ok : ∀ ci, ci < 7 → vwCl[ci]? = some (cNm ci, cTb ci, cNf ci) := by
  intro ci h
  match ci, h with
  | 0, _ => rfl
  | 1, _ => rfl
  | 2, _ => rfl
  | 3, _ => rfl
  | 4, _ => rfl
  | 5, _ => rfl
  | 6, _ => rfl
  | k + 7, h => omega
theorem cl_ty : ∀ ci, ci < 7 → ∀ k, k < cNf ci → parseFieldDescriptor ((cTb ci) k).2.2.1 = some (cTy ci k) := by
  intro ci h
  match ci, h with
  | 0, _ => exact tyX0_ok
  | 1, _ => exact tyX1_ok
  | 2, _ => exact tyX2_ok
  | 3, _ => exact tyX3_ok
  | 4, _ => exact tyX4_ok
  | 5, _ => exact tyX5_ok
  | 6, _ => exact tyX6_ok
  | k + 7, h => omega
theorem cl_nm : ∀ ci, ci < 7 → ∀ a, a < cNf ci → ∀ b, b < cNf ci → a ≠ b → ((cTb ci) a).2.1 ≠ ((cTb ci) b).2.1 := by
  intro ci h
  match ci, h with
  | 0, _ => exact nmX0
  | 1, _ => exact nmX1
  | 2, _ => exact nmX2
  | 3, _ => exact nmX3
  | 4, _ => exact nmX4
  | 5, _ => exact nmX5
  | 6, _ => exact nmX6
  | k + 7, h => omega
theorem in_at {ws : List Cond} (ps : List Nat) (h : ws = ps.filterMap (fun i => lw_tbl[i]?) ∧ ws.all goodWord = true) : ∀ w ∈ ws, w ∈ TB := by
  intro w hw
  have h2 := List.all_eq_true.mp h.2 w hw
  rw [h.1] at hw
  obtain ⟨i, -, hi⟩ := List.mem_filterMap.mp hw
  exact tb_in i ⟨hi, h2⟩
theorem inq0 : ∀ w ∈ u_ws RX0 TX0 9, w ∈ TB := in_at [105, 107, 109, 111, 113, 115, 117, 119, 121] (by decide +kernel)
theorem inq1 : ∀ w ∈ u_ws RX1 TX1 3, w ∈ TB := in_at [206, 208, 210] (by decide +kernel)
theorem inq2 : ∀ w ∈ u_ws RX2 TX2 11, w ∈ TB := in_at [153, 155, 157, 159, 161, 163, 165, 167, 169, 171, 173] (by decide +kernel)
theorem inq3 : ∀ w ∈ u_ws RX3 TX3 4, w ∈ TB := in_at [192, 194, 196, 198] (by decide +kernel)
theorem inq4 : ∀ w ∈ u_ws RX4 TX4 2, w ∈ TB := in_at [79, 81] (by decide +kernel)
theorem inq5 : ∀ w ∈ u_ws RX5 TX5 8, w ∈ TB := in_at [256, 258, 260, 262, 264, 266, 268, 270] (by decide +kernel)
theorem inq6 : ∀ w ∈ u_ws RX6 TX6 19, w ∈ TB := in_at [809, 811, 813, 815, 817, 819, 821, 823, 825, 827, 829, 831, 833, 835, 837, 839, 841, 843, 845] (by decide +kernel)
theorem cl_in : ∀ ci, ci < 7 → ∀ w ∈ u_ws (cNm ci) (cTb ci) (cNf ci), w ∈ TB := by
  intro ci h
  match ci, h with
  | 0, _ => exact inq0
  | 1, _ => exact inq1
  | 2, _ => exact inq2
  | 3, _ => exact inq3
  | 4, _ => exact inq4
  | 5, _ => exact inq5
  | 6, _ => exact inq6
  | k + 7, h => omega
/-- a field's value -/
def fvl (Ω : Shp) (A : Nat → Nat) (I : MemI) (J : MemJ) (ci i k : Nat) : Value := match cTy ci k with
  | .long => .long (J i k)
  | .object _ => va_rf ((Ω.2 i k).map A)
  | .array _ => va_rf ((Ω.2 i k).map A)
  | _ => .int (I i k)
/-- a cell: an object of a class of ours (0, class, _), an array (1, kind, length); kinds 0 int, 1 long, 2 byte, 3 boolean -/
def cel (cA : Nat → ClassId) (Ω : Shp) (A : Nat → Nat) (I : MemI) (J : MemJ) (i : Nat) (q : Nat × Nat × Nat) : va_E := match q with
  | (0, ci, _) => .inr (ci, (List.range (cNf ci)).map (fun k => fvl Ω A I J ci i k))
  | (_, 1, n) => .inl (cA 1, n, .inr (.inl (J i)))
  | (_, t, n) => .inl (cA t, n, .inl (I i))
def wld (cA : Nat → ClassId) (Ω : Shp) (A : Nat → Nat) (I : MemI) (J : MemJ) : va_W := Ω.1.mapIdx (fun i q => (A i, cel cA Ω A I J i q))
theorem wld_get {cA : Nat → ClassId} {Ω : Shp} {A : Nat → Nat} {I : MemI} {J : MemJ} {a : Nat} {q : Nat × Nat × Nat} (h : Ω.1[a]? = some q) : (wld cA Ω A I J)[a]? = some (A a, cel cA Ω A I J a q) := by
  simp [wld, h]
theorem wld_len {cA : Nat → ClassId} {Ω : Shp} {A : Nat → Nat} {I : MemI} {J : MemJ} : (wld cA Ω A I J).length = Ω.1.length := by
  simp [wld]
theorem fvl_ne {Ω : Shp} {A : Nat → Nat} {I : MemI} {J : MemJ} {ci i k a f : Nat} {x : Int32} (h : i ≠ a) : fvl Ω A (uI I a f x) J ci i k = fvl Ω A I J ci i k := by
  unfold fvl
  split <;> simp [uI, h]
theorem fvl_neJ {Ω : Shp} {A : Nat → Nat} {I : MemI} {J : MemJ} {ci i k a f : Nat} {x : Int64} (h : i ≠ a) : fvl Ω A I (uJ J a f x) ci i k = fvl Ω A I J ci i k := by
  unfold fvl
  split <;> simp [uJ, h]
theorem row_ne {I : MemI} {i a f : Nat} {x : Int32} (h : i ≠ a) : uI I a f x i = I i := by
  funext j; simp [uI, h]
theorem row_neJ {J : MemJ} {i a f : Nat} {x : Int64} (h : i ≠ a) : uJ J a f x i = J i := by
  funext j; simp [uJ, h]
theorem cel_ne {cA : Nat → ClassId} {Ω : Shp} {A : Nat → Nat} {I : MemI} {J : MemJ} {i a f : Nat} {x : Int32} {q : Nat × Nat × Nat} (h : i ≠ a) : cel cA Ω A (uI I a f x) J i q = cel cA Ω A I J i q := by
  unfold cel
  split
  · simp only [fvl_ne h]
  · rfl
  · rw [row_ne h]
theorem cel_neJ {cA : Nat → ClassId} {Ω : Shp} {A : Nat → Nat} {I : MemI} {J : MemJ} {i a f : Nat} {x : Int64} {q : Nat × Nat × Nat} (h : i ≠ a) : cel cA Ω A I (uJ J a f x) i q = cel cA Ω A I J i q := by
  unfold cel
  split
  · simp only [fvl_neJ h]
  · rw [row_neJ h]
  · rfl
theorem wld_set {cA : Nat → ClassId} {Ω : Shp} {A : Nat → Nat} {I I' : MemI} {J J' : MemJ} {a : Nat} {q : Nat × Nat × Nat} (h : Ω.1[a]? = some q) (hne : ∀ i q', i ≠ a → cel cA Ω A I' J' i q' = cel cA Ω A I J i q') {e : va_E} (he : cel cA Ω A I' J' a q = e) : (wld cA Ω A I J).set a (A a, e) = wld cA Ω A I' J' := by
  apply List.ext_getElem?
  intro j
  by_cases hj : j = a
  · subst hj
    have hl : j < (wld cA Ω A I J).length := by rw [wld_len]; exact (List.getElem?_eq_some_iff.mp h).1
    rw [List.getElem?_set_self hl, wld_get h, he]
  · rw [List.getElem?_set_ne (Ne.symm hj)]
    cases hq : Ω.1[j]? with
    | none => simp [wld, hq]
    | some q' => rw [wld_get hq, wld_get hq, hne j q' hj]
/-- which cells may be written -/
def AS (Ω : Shp) (A : Nat → Nat) (sz : Nat) : Nat → Prop := fun q => (∃ i, i < Ω.1.length ∧ q = A i) ∨ sz ≤ q
def Apt (Ω : Shp) (A : Nat → Nat) : Prop := ∀ i j, i < Ω.1.length → j < Ω.1.length → A i = A j → i = j
theorem Apt.D {Ω : Shp} {A : Nat → Nat} (h : Apt Ω A) {cA : Nat → ClassId} {I : MemI} {J : MemJ} {sz : Nat} : va_D (AS Ω A sz) (wld cA Ω A I J) := by
  have key : ∀ (k : Nat) (q : Nat × va_E), (wld cA Ω A I J)[k]? = some q → k < Ω.1.length ∧ q.1 = A k := by
    intro k q hk
    have hl : k < (wld cA Ω A I J).length := (List.getElem?_eq_some_iff.mp hk).1
    rw [wld_len] at hl
    refine ⟨hl, ?_⟩
    rw [wld_get (List.getElem?_eq_getElem hl)] at hk
    cases hk
    rfl
  refine ⟨fun i j p q hi hj he => ?_, fun k q hk => ?_⟩
  · obtain ⟨h1, h2⟩ := key i p hi
    obtain ⟨h3, h4⟩ := key j q hj
    exact h i j h1 h3 (by rw [← h2, ← h4]; exact he)
  · obtain ⟨h1, h2⟩ := key k q hk
    exact Or.inl ⟨k, h1, h2⟩
def ATs (cA : Nat → ClassId) : List (ClassId × FieldType) := [(cA 0, .int), (cA 1, .long), (cA 2, .byte), (cA 3, .boolean)]
/-- values, by the addresses -/
def cv (A : Nat → Nat) (fm : Value) (v : Value) : Value := match v with
  | .ref i => if i = 1010 then fm else .ref (A i)
  | v => v
def cvl (A : Nat → Nat) (fm : Value) (q : Nat × Value) : Nat × Value := (q.1, cv A fm q.2)
/-- words of nest mates -/
def nestF : List (String × Nat × String × String × String × String) := [("StayWhereFell", 62, "StayWhereFell$Text", "length", "I", "StayWhereFell"), ("StayWhereFell", 225, "StayWhereFell$Field", "width", "I", "StayWhereFell"), ("StayWhereFell", 227, "StayWhereFell$Field", "height", "I", "StayWhereFell"), ("StayWhereFell", 146, "StayWhereFell$Field", "last", "I", "StayWhereFell"), ("StayWhereFell", 86, "StayWhereFell$Field", "cells", "I", "StayWhereFell"), ("StayWhereFell$Place", 99, "StayWhereFell$Field", "cells", "I", "StayWhereFell"), ("StayWhereFell", 252, "StayWhereFell$Place", "under", "LStayWhereFell$Place;", "StayWhereFell"), ("StayWhereFell$Shelf", 29, "StayWhereFell$Place", "signs", "J", "StayWhereFell"), ("StayWhereFell$Shelf", 34, "StayWhereFell$Place", "times", "J", "StayWhereFell"), ("StayWhereFell", 195, "StayWhereFell$Place", "white", "I", "StayWhereFell"), ("StayWhereFell", 198, "StayWhereFell$Place", "black", "I", "StayWhereFell"), ("StayWhereFell", 115, "StayWhereFell$Place", "dead", "I", "StayWhereFell"), ("StayWhereFell", 173, "StayWhereFell$Place", "kings", "I", "StayWhereFell"), ("StayWhereFell$Shelf", 36, "StayWhereFell$Place", "on", "I", "StayWhereFell"), ("StayWhereFell", 100, "StayWhereFell$Place", "on", "I", "StayWhereFell"), ("StayWhereFell$Shelf", 40, "StayWhereFell$Place", "lost", "I", "StayWhereFell"), ("StayWhereFell", 229, "StayWhereFell$Place", "lost", "I", "StayWhereFell"), ("StayWhereFell", 154, "StayWhereFell$Past", "size", "I", "StayWhereFell")]
def nestM : List (String × Nat × MethodName × String) := [("StayWhereFell", 11, yX4_init, "StayWhereFell"), ("StayWhereFell", 18, yX0_init, "StayWhereFell"), ("StayWhereFell", 40, yX1_init, "StayWhereFell"), ("StayWhereFell$Field", 51, yX5_at, "StayWhereFell"), ("StayWhereFell$Field", 88, yX5_lay, "StayWhereFell"), ("StayWhereFell$Place", 60, yX5_sideOf, "StayWhereFell"), ("StayWhereFell$Place", 72, yX5_kindOf, "StayWhereFell"), ("StayWhereFell$Field", 47, yX5_kindOf, "StayWhereFell"), ("StayWhereFell$Field", 74, yX5_has, "StayWhereFell"), ("StayWhereFell$Field", 59, yX5_sideOf, "StayWhereFell"), ("StayWhereFell$Place", 102, yX5_has, "StayWhereFell"), ("StayWhereFell$Place", 121, yX5_lay, "StayWhereFell"), ("StayWhereFell$Place", 117, yX5_at, "StayWhereFell"), ("StayWhereFell$Field", 62, yX5_lowest, "StayWhereFell")]
def Nst (U : State) : Prop := (∀ q ∈ nestF, va_Nw (.fieldLinkNest q.1 q.2.1 q.2.2.1 q.2.2.2.1 q.2.2.2.2.1 q.2.2.2.2.2) U) ∧ ∀ q ∈ nestM, va_Nw (.methodLinkNest q.1 q.2.1 q.2.2.1 q.2.2.2) U
theorem Nst.warm {s U : State} (hW : s.WarmedH U.vm) (h : Nst s) : Nst U := ⟨fun q hq => va_Nw.warmF hW (h.1 q hq), fun q hq => va_Nw.warmM hW (h.2 q hq)⟩
theorem Nst.same {u U : State} (hv : u.vm = U.vm) (h : Nst u) : Nst U := ⟨fun q hq => va_Nw.same rfl hv (h.1 q hq), fun q hq => va_Nw.same rfl hv (h.2 q hq)⟩
/-- read-only cells: static arrays, the two String constants with their bytes -/
def roS : List (String × Nat) := [("ACROSS", 1000), ("DOWN", 1001), ("LEAP_ACROSS", 1002), ("LEAP_DOWN", 1003)]
def roT (i : Nat) : List Int32 := match i with
  | 1000 => [0, 1, 1, 1, 0, -1, -1, -1]
  | 1001 => [-1, -1, 0, 1, 1, 1, 0, -1]
  | 1002 => [1, 2, 2, 1, -1, -2, -2, -1]
  | 1003 => [-2, -1, 1, 2, 2, 1, -1, -2]
  | _ => [46, 35, 75, 82, 66, 78, 80, 107, 114, 98, 110, 112]
def Roe (A : Nat → Nat) (fm : Value) (B : Nat → Prop) (U : State) (H : Heap) : Prop :=
  ((∀ q ∈ roS, va_Z RX0 q.1 "[I" (.ref (A q.2)) B U H) ∧ ∀ i, 1000 ≤ i → i < 1004 → va_T .int (A i) 8 (fun j => .int ((roT i).getD j 0)) B U H) ∧
  (∀ i, 1004 ≤ i → i < 1006 → va_O RJ0 (A i) B U H ∧ va_OF RJ0 "coder" "B" (.int 0) (A i) B U H ∧ va_OF RJ0 "value" "[B" (.ref (A (i + 2))) (A i) B U H ∧ va_T .byte (A (i + 2)) 12 (fun j => .int ((roT (i + 2)).getD j 0)) B U H) ∧
  (vk_R RX5 268 ".#KRBNPkrbnp" (A 1004) U ∧ vk_R RX4 34 ".#KRBNPkrbnp" (A 1005) U) ∧
  va_Z RJ0 "COMPACT_STRINGS" "Z" (.int 1) B U H ∧ va_Z "jdk/internal/util/Preconditions" "SIOOBE_FORMATTER" "Ljava/util/function/BiFunction;" fm B U H ∧ fm.category = 1
theorem Roe.go {A : Nat → Nat} {fm : Value} {B B1 : Nat → Prop} {s U : State} {H : Heap} (h : Roe A fm B s s.heap) (hW : s.WarmedH U.vm) (hk : ∀ a : Nat, a < s.heap.size → ¬ B a → H[a]? = s.heap[a]?) (hB : ∀ q, B1 q → B q) : Roe A fm B1 U H := by
  obtain ⟨⟨h1, h2⟩, h3, ⟨h4, h5⟩, h6, h7, h8⟩ := h
  exact ⟨⟨fun q hq => (((h1 q hq).moved hW.alike).kept hk).narrow hB, fun i a b => (((h2 i a b).moved hW.alike).kept hk).narrow hB⟩,
    fun i a b => ⟨(((h3 i a b).1.moved hW.alike).kept hk).narrow hB, (((h3 i a b).2.1.moved hW.alike).kept hk).narrow hB, (((h3 i a b).2.2.1.moved hW.alike).kept hk).narrow hB, (((h3 i a b).2.2.2.moved hW.alike).kept hk).narrow hB⟩,
    ⟨h4.warm hW, h5.warm hW⟩, ((h6.moved hW.alike).kept hk).narrow hB, ((h7.moved hW.alike).kept hk).narrow hB, h8⟩
theorem Roe.same {A : Nat → Nat} {fm : Value} {B : Nat → Prop} {u U : State} {H : Heap} (h : Roe A fm B u H) (hv : u.vm = U.vm) : Roe A fm B U H := by
  obtain ⟨⟨h1, h2⟩, h3, ⟨h4, h5⟩, h6, h7, h8⟩ := h
  have ha : u.vm.Alike U.vm := hv ▸ Vm.Alike.refl _
  exact ⟨⟨fun q hq => (h1 q hq).moved ha, fun i a b => (h2 i a b).moved ha⟩,
    fun i a b => ⟨(h3 i a b).1.moved ha, (h3 i a b).2.1.moved ha, (h3 i a b).2.2.1.moved ha, (h3 i a b).2.2.2.moved ha⟩,
    ⟨h4.same hv.symm, h5.same hv.symm⟩, h6.moved ha, h7.moved ha, h8⟩
def rmD (d : Nat) : Room := { frames := d, cells := 0, slots := 0, locals := 50 * d }
def wsK (K : Mth) : List Cond := .code K.1 K.2.1 K.2.2.1 K.2.2.2 :: TB
/-- what holds through an activation -/
def Act (Ω : Shp) (K : Mth) (G : va_G) (cA : Nat → ClassId) (A : Nat → Nat) (fm : Value) (p : Program) (s : State) (m : MethodId) (args : Array Value) (meth : Method) (c : Code) : Prop :=
  p.tables.exec = Jvm.exec ∧ c.code = K.2.1 ∧ meth.sig.returnType = K.2.2.2 ∧ meth.locks = false ∧ c.maxLocals = K.2.2.1 ∧ s.vm.findClass K.1.cls = some m.cls ∧ (∀ w ∈ TB, w.before args s = true) ∧ va_K G vwCl (ATs cA) s ∧ Apt Ω A ∧ Roe A fm (AS Ω A s.heap.size) s s.heap ∧ Nst s
def PCn (Ω : Shp) (G : va_G) (cA : Nat → ClassId) (A : Nat → Nat) (fm : Value) (sz : Nat) (as : List Value) (I : MemI) (J : MemJ) : Array Value → State → Prop :=
  va_Pc (as.map (cv A fm)) (fun U => U.heap.size = sz ∧ va_P G vwCl (wld cA Ω A I J) U.heap ∧ va_K G vwCl (ATs cA) U ∧ Apt Ω A ∧ Roe A fm (AS Ω A sz) U U.heap ∧ Nst U)
def QCn (Ω : Shp) (G : va_G) (cA : Nat → ClassId) (A : Nat → Nat) (fm : Value) (Q : Pst) : Array Value → State → Outcome → State → Prop := fun _ st o t =>
  (∃ (r : Option Value) (I' : MemI) (J' : MemJ), o = .returned (r.map (cv A fm)) ∧ Q r I' J' ∧ va_P G vwCl (wld cA Ω A I' J') t.heap) ∧ va_F (AS Ω A st.heap.size) st t
/-- a method's contract -/
def CALL (Ω : Shp) (d : Nat) (K : Mth) (as : List Value) (I : MemI) (J : MemJ) (Q : Pst) : Prop :=
  ∀ (l : Launch) (G : va_G) (cA : Nat → ClassId) (A : Nat → Nat) (fm : Value) (sz : Nat), Met l K.1 (wsK K) (rmD d) (PCn Ω G cA A fm sz as I J) (QCn Ω G cA A fm Q) 0 0 (AS Ω A sz)
/-- from here the machine comes to an answer with Q -/
def WP (Ω : Shp) (d : Nat) (K : Mth) (pc : Nat) (L : Lcs) (S : List Value) (I : MemI) (J : MemJ) (Q : Pst) : Prop :=
  ∀ (l : Launch) (G : va_G) (cA : Nat → ClassId) (A : Nat → Nat) (fm : Value) (p : Program) (e : Env) (s : State) (m : MethodId) (args : Array Value) (below : List Frame) (meth : Method) (c : Code) (H : Heap) (locs : List Loc) (ls : Array Slot),
    Act Ω K G cA A fm p s m args meth c → va_P G vwCl (wld cA Ω A I J) H → va_S (AS Ω A s.heap.size) s.heap H locs → lv_has ls K.2.2.1 (L.map (cvl A fm)) →
    W p l e (rmD d) s m args below meth c H locs 0 0 (MQ below (QCn Ω G cA A fm Q) args s 0 0 (AS Ω A s.heap.size)) (F0 m pc ls (S.map (cv A fm)))
theorem cv_cat {A : Nat → Nat} {fm : Value} (h : fm.category = 1) (v : Value) : (cv A fm v).category = v.category := by
  cases v <;> simp [cv, Value.category]
  rename_i i
  by_cases hi : i = 1010
  · simp [hi]
    cases fm <;> simp_all [Value.category]
  · simp [hi]
theorem map_cat {A : Nat → Nat} {fm : Value} (h : fm.category = 1) (S : List Value) : ((S.map (cv A fm)).map fun v => v.category) = S.map fun v => v.category := by
  rw [List.map_map]
  exact List.map_congr_left fun v _ => cv_cat h v
def lget : Lcs → Nat → Option Value
  | [], _ => none
  | q :: t, i => match Nat.beq q.1 i with
    | true => some q.2
    | false => lget t i
def lins (i : Nat) (v : Value) : Lcs → Lcs
  | [] => [(i, v)]
  | q :: t => match Nat.ble i q.1 with
    | true => (i, v) :: q :: t
    | false => q :: lins i v t
/-- a value of one slot stored -/
def lset1 (L : Lcs) (i : Nat) (v : Value) : Lcs := lins i v (L.filter (fun q => !(q.1 == i) && !(q.1 + 1 == i && q.2.category == 2)))
/-- .. of two -/
def lset2 (L : Lcs) (i : Nat) (v : Value) : Lcs := lins i v (L.filter (fun q => !(q.1 == i) && (!(q.1 == i + 1) && !(q.1 + 1 == i && q.2.category == 2))))
theorem lget_mem : ∀ {L : Lcs} {i : Nat} {v : Value}, lget L i = some v → (i, v) ∈ L
  | [], i, v, h => by cases h
  | q :: t, i, v, h => by
    unfold lget at h
    split at h
    · rename_i hb
      have e : q.1 = i := Nat.eq_of_beq_eq_true hb
      cases h
      subst e
      exact List.mem_cons_self
    · exact List.mem_cons_of_mem _ (lget_mem h)
theorem lins_mem {i : Nat} {v : Value} : ∀ {L : Lcs} {q : Nat × Value}, q ∈ lins i v L → q = (i, v) ∨ q ∈ L
  | [], q, h => by
    simp [lins] at h
    exact Or.inl h
  | x :: t, q, h => by
    unfold lins at h
    split at h
    · rcases List.mem_cons.mp h with h | h
      · exact Or.inl h
      · exact Or.inr h
    · rcases List.mem_cons.mp h with h | h
      · exact Or.inr (by rw [h]; exact List.mem_cons_self)
      · rcases lins_mem h with h | h
        · exact Or.inl h
        · exact Or.inr (List.mem_cons_of_mem _ h)
theorem lv_has.less {ls : Array Slot} {n : Nat} {l l' : List (Nat × Value)} (h : lv_has ls n l) (hs : ∀ q ∈ l', q ∈ l) : lv_has ls n l' := ⟨h.1, h.2.1, fun q hq => h.2.2 q (hs q hq)⟩
theorem lset1_has {A : Nat → Nat} {fm : Value} (hf : fm.category = 1) {ls : Array Slot} {n i : Nat} {L : Lcs} {v : Value} (h : lv_has ls n ((i, cv A fm v) :: (L.map (cvl A fm)).filter (fun q => !(q.1 == i) && !(q.1 + 1 == i && q.2.category == 2)))) : lv_has ls n ((lset1 L i v).map (cvl A fm)) := by
  refine h.less fun q hq => ?_
  obtain ⟨x, hx, rfl⟩ := List.mem_map.mp hq
  rcases lins_mem hx with rfl | hx
  · exact List.mem_cons_self
  · obtain ⟨h1, h2⟩ := List.mem_filter.mp hx
    refine List.mem_cons_of_mem _ (List.mem_filter.mpr ⟨List.mem_map.mpr ⟨x, h1, rfl⟩, ?_⟩)
    simpa [cvl, cv_cat hf] using h2
theorem lset2_has {A : Nat → Nat} {fm : Value} (hf : fm.category = 1) {ls : Array Slot} {n i : Nat} {L : Lcs} {v : Value} (h : lv_has ls n ((i, cv A fm v) :: (L.map (cvl A fm)).filter (fun q => !(q.1 == i) && (!(q.1 == i + 1) && !(q.1 + 1 == i && q.2.category == 2))))) : lv_has ls n ((lset2 L i v).map (cvl A fm)) := by
  refine h.less fun q hq => ?_
  obtain ⟨x, hx, rfl⟩ := List.mem_map.mp hq
  rcases lins_mem hx with rfl | hx
  · exact List.mem_cons_self
  · obtain ⟨h1, h2⟩ := List.mem_filter.mp hx
    refine List.mem_cons_of_mem _ (List.mem_filter.mpr ⟨List.mem_map.mpr ⟨x, h1, rfl⟩, ?_⟩)
    simpa [cvl, cv_cat hf] using h2
theorem lv_args_map {A : Nat → Nat} {fm : Value} (hf : fm.category = 1) : ∀ (vs : List Value) (i : Nat), lv_args i (vs.map (cv A fm)) = (lv_args i vs).map (cvl A fm)
  | [], _ => rfl
  | v :: vs, i => by
    simp only [List.map_cons, lv_args, cv_cat hf]
    rw [lv_args_map (A := A) hf vs]
    rfl
theorem lg_sl_len {A : Nat → Nat} {fm : Value} (hf : fm.category = 1) : ∀ (vs : List Value), (lg_sl (vs.map (cv A fm))).length = (lg_sl vs).length
  | [] => rfl
  | v :: vs => by
    have h := lg_sl_len (A := A) hf vs
    simp only [lg_sl, List.map_cons, List.flatMap_cons, List.length_append, cv_cat hf] at h ⊢
    rw [h]
    split <;> simp
end
section
/-! ROWS: an instruction each -/
section RWS
variable {Ω : Shp} {d : Nat} {K : Mth} {pc : Nat} {L : Lcs} {S : List Value} {I : MemI} {J : MemJ} {Q : Pst}
theorem WP.of {pc2 : Nat} {L2 : Lcs} {S2 : List Value} (h : WP Ω d K pc2 L2 S2 I J Q) (h1 : pc2 = pc) (h2 : L2 = L) (h3 : S2 = S) : WP Ω d K pc L S I J Q := by subst h1; subst h2; subst h3; exact h
theorem act_fm {G : va_G} {cA : Nat → ClassId} {A : Nat → Nat} {fm : Value} {p : Program} {s : State} {m : MethodId} {args : Array Value} {meth : Method} {c : Code} (X : Act Ω K G cA A fm p s m args meth c) : fm.category = 1 := by
  obtain ⟨-, -, -, -, -, -, -, -, -, hR, -⟩ := X
  exact hR.2.2.2.2.2
theorem wp_iconst {n : Int} {v : Int32} (hd : decode K.2.1 pc = .ok (.iconst n, 1)) (hv : Int32.ofInt n = v) (k : WP Ω d K (pc + 1) L (.int v :: S) I J Q) : WP Ω d K pc L S I J Q := by
  intro l G cA A fm p e s m args below meth c H locs ls X hP hS hl
  exact lv_iconst X.1 X.2.1 hd hv (k l G cA A fm p e s m args below meth c H locs ls X hP hS hl)
theorem wp_bipush {n : Int} {v : Int32} (hd : decode K.2.1 pc = .ok (.bipush n, 2)) (hv : (Int8.ofInt n).toInt32 = v) (k : WP Ω d K (pc + 2) L (.int v :: S) I J Q) : WP Ω d K pc L S I J Q := by
  intro l G cA A fm p e s m args below meth c H locs ls X hP hS hl
  exact lv_bipush X.1 X.2.1 hd hv (k l G cA A fm p e s m args below meth c H locs ls X hP hS hl)
theorem wp_sipush {n : Int} {v : Int32} (hd : decode K.2.1 pc = .ok (.sipush n, 3)) (hv : (Int16.ofInt n).toInt32 = v) (k : WP Ω d K (pc + 3) L (.int v :: S) I J Q) : WP Ω d K pc L S I J Q := by
  intro l G cA A fm p e s m args below meth c H locs ls X hP hS hl
  exact lv_sipush X.1 X.2.1 hd hv (k l G cA A fm p e s m args below meth c H locs ls X hP hS hl)
theorem wp_lconst {n : Fin 2} {v : Int64} (hd : decode K.2.1 pc = .ok (.lconst n, 1)) (hv : Int64.ofNat (n : Nat) = v) (k : WP Ω d K (pc + 1) L (.long v :: S) I J Q) : WP Ω d K pc L S I J Q := by
  intro l G cA A fm p e s m args below meth c H locs ls X hP hS hl
  exact lv_lconst X.1 X.2.1 hd hv (k l G cA A fm p e s m args below meth c H locs ls X hP hS hl)
theorem wp_null (hd : decode K.2.1 pc = .ok (.aconst_null, 1)) (k : WP Ω d K (pc + 1) L (.null :: S) I J Q) : WP Ω d K pc L S I J Q := by
  intro l G cA A fm p e s m args below meth c H locs ls X hP hS hl
  exact lv_null X.1 X.2.1 hd (k l G cA A fm p e s m args below meth c H locs ls X hP hS hl)
theorem wp_ldc {idx : Nat} {v : Int32} (hd : decode K.2.1 pc = .ok (.ldc idx, 2)) (hc : Cond.constant K.1.cls idx v ∈ TB) (k : WP Ω d K (pc + 2) L (.int v :: S) I J Q) : WP Ω d K pc L S I J Q := by
  intro l G cA A fm p e s m args below meth c H locs ls X hP hS hl
  exact lv_ldc X.1 X.2.1 X.2.2.2.2.2.1 (X.2.2.2.2.2.2.1 _ hc) hd (k l G cA A fm p e s m args below meth c H locs ls X hP hS hl)
theorem wp_ldc_w {idx : Nat} {v : Int32} (hd : decode K.2.1 pc = .ok (.ldc_w idx, 3)) (hc : Cond.constant K.1.cls idx v ∈ TB) (k : WP Ω d K (pc + 3) L (.int v :: S) I J Q) : WP Ω d K pc L S I J Q := by
  intro l G cA A fm p e s m args below meth c H locs ls X hP hS hl
  exact lv_ldcw X.1 X.2.1 X.2.2.2.2.2.1 (X.2.2.2.2.2.2.1 _ hc) hd (k l G cA A fm p e s m args below meth c H locs ls X hP hS hl)
theorem wp_ldc2_w {idx : Nat} {v : Int64} (hd : decode K.2.1 pc = .ok (.ldc2_w idx, 3)) (hc : Cond.constantLong K.1.cls idx v ∈ TB) (k : WP Ω d K (pc + 3) L (.long v :: S) I J Q) : WP Ω d K pc L S I J Q := by
  intro l G cA A fm p e s m args below meth c H locs ls X hP hS hl
  exact lv_ldc2 X.1 X.2.1 X.2.2.2.2.2.1 (X.2.2.2.2.2.2.1 _ hc) hd (k l G cA A fm p e s m args below meth c H locs ls X hP hS hl)
theorem has_at {A : Nat → Nat} {fm : Value} {ls : Array Slot} {n i : Nat} {v : Value} (hl : lv_has ls n (L.map (cvl A fm))) (h : lget L i = some v) : ls[i]? = some (.val (cv A fm v)) :=
  hl.2.2 (i, cv A fm v) (List.mem_map.mpr ⟨(i, v), lget_mem h, rfl⟩)
theorem wp_iload_n {f : Fin 4} {i : Nat} {x : Int32} (hd : decode K.2.1 pc = .ok (.iload_n f, 1)) (hi : (f : Nat) = i) (hx : lget L i = some (.int x)) (k : WP Ω d K (pc + 1) L (.int x :: S) I J Q) : WP Ω d K pc L S I J Q := by
  intro l G cA A fm p e s m args below meth c H locs ls X hP hS hl
  exact lv_iload_n X.1 X.2.1 hd hi (has_at hl hx) (k l G cA A fm p e s m args below meth c H locs ls X hP hS hl)
theorem wp_iload {i : Nat} {x : Int32} (hd : decode K.2.1 pc = .ok (.iload i, 2)) (hx : lget L i = some (.int x)) (k : WP Ω d K (pc + 2) L (.int x :: S) I J Q) : WP Ω d K pc L S I J Q := by
  intro l G cA A fm p e s m args below meth c H locs ls X hP hS hl
  exact lv_iload X.1 X.2.1 hd (has_at hl hx) (k l G cA A fm p e s m args below meth c H locs ls X hP hS hl)
theorem wp_lload_n {f : Fin 4} {i : Nat} {x : Int64} (hd : decode K.2.1 pc = .ok (.lload_n f, 1)) (hi : (f : Nat) = i) (hx : lget L i = some (.long x)) (k : WP Ω d K (pc + 1) L (.long x :: S) I J Q) : WP Ω d K pc L S I J Q := by
  intro l G cA A fm p e s m args below meth c H locs ls X hP hS hl
  exact lv_lload_n X.1 X.2.1 hd hi (has_at hl hx) (k l G cA A fm p e s m args below meth c H locs ls X hP hS hl)
theorem wp_lload {i : Nat} {x : Int64} (hd : decode K.2.1 pc = .ok (.lload i, 2)) (hx : lget L i = some (.long x)) (k : WP Ω d K (pc + 2) L (.long x :: S) I J Q) : WP Ω d K pc L S I J Q := by
  intro l G cA A fm p e s m args below meth c H locs ls X hP hS hl
  exact lv_lload X.1 X.2.1 hd (has_at hl hx) (k l G cA A fm p e s m args below meth c H locs ls X hP hS hl)
theorem wp_aload_n {f : Fin 4} {i : Nat} {x : Nat} (hd : decode K.2.1 pc = .ok (.aload_n f, 1)) (hi : (f : Nat) = i) (hx : lget L i = some (.ref x)) (hne : Nat.beq x 1010 = false) (k : WP Ω d K (pc + 1) L (.ref x :: S) I J Q) : WP Ω d K pc L S I J Q := by
  intro l G cA A fm p e s m args below meth c H locs ls X hP hS hl
  have hn : ¬ x = 1010 := fun h => by rw [h] at hne; cases hne
  have h1 := has_at hl hx
  have h2 := k l G cA A fm p e s m args below meth c H locs ls X hP hS hl
  have e1 : cv A fm (.ref x) = .ref (A x) := by simp [cv, hn]
  rw [e1] at h1
  rw [List.map_cons, e1] at h2
  exact lv_aload_n X.1 X.2.1 hd hi h1 h2
theorem wp_aload {i : Nat} {x : Nat} (hd : decode K.2.1 pc = .ok (.aload i, 2)) (hx : lget L i = some (.ref x)) (hne : Nat.beq x 1010 = false) (k : WP Ω d K (pc + 2) L (.ref x :: S) I J Q) : WP Ω d K pc L S I J Q := by
  intro l G cA A fm p e s m args below meth c H locs ls X hP hS hl
  have hn : ¬ x = 1010 := fun h => by rw [h] at hne; cases hne
  have h1 := has_at hl hx
  have h2 := k l G cA A fm p e s m args below meth c H locs ls X hP hS hl
  have e1 : cv A fm (.ref x) = .ref (A x) := by simp [cv, hn]
  rw [e1] at h1
  rw [List.map_cons, e1] at h2
  exact lv_aload X.1 X.2.1 hd h1 h2
theorem wp_aload_nN {f : Fin 4} {i : Nat} (hd : decode K.2.1 pc = .ok (.aload_n f, 1)) (hi : (f : Nat) = i) (hx : lget L i = some .null) (k : WP Ω d K (pc + 1) L (.null :: S) I J Q) : WP Ω d K pc L S I J Q := by
  intro l G cA A fm p e s m args below meth c H locs ls X hP hS hl
  exact lv_aload_nN X.1 X.2.1 hd hi (has_at hl hx) (k l G cA A fm p e s m args below meth c H locs ls X hP hS hl)
theorem wp_aloadN {i : Nat} (hd : decode K.2.1 pc = .ok (.aload i, 2)) (hx : lget L i = some .null) (k : WP Ω d K (pc + 2) L (.null :: S) I J Q) : WP Ω d K pc L S I J Q := by
  intro l G cA A fm p e s m args below meth c H locs ls X hP hS hl
  exact lv_aloadN X.1 X.2.1 hd (has_at hl hx) (k l G cA A fm p e s m args below meth c H locs ls X hP hS hl)
theorem wp_istore_n {f : Fin 4} {i : Nat} {x : Int32} (hd : decode K.2.1 pc = .ok (.istore_n f, 1)) (hi : (f : Nat) = i) (hn : i < K.2.2.1) (k : WP Ω d K (pc + 1) (lset1 L i (.int x)) S I J Q) : WP Ω d K pc L (.int x :: S) I J Q := by
  intro l G cA A fm p e s m args below meth c H locs ls X hP hS hl
  exact lv_istore_n X.1 X.2.1 hd hi hl hn rfl (fun ls' hl' => k l G cA A fm p e s m args below meth c H locs ls' X hP hS (lset1_has (act_fm X) (v := .int x) hl'))
theorem wp_istore {i : Nat} {x : Int32} (hd : decode K.2.1 pc = .ok (.istore i, 2)) (hn : i < K.2.2.1) (k : WP Ω d K (pc + 2) (lset1 L i (.int x)) S I J Q) : WP Ω d K pc L (.int x :: S) I J Q := by
  intro l G cA A fm p e s m args below meth c H locs ls X hP hS hl
  exact lv_istore X.1 X.2.1 hd hl hn rfl (fun ls' hl' => k l G cA A fm p e s m args below meth c H locs ls' X hP hS (lset1_has (act_fm X) (v := .int x) hl'))
theorem wp_lstore_n {f : Fin 4} {i : Nat} {x : Int64} (hd : decode K.2.1 pc = .ok (.lstore_n f, 1)) (hi : (f : Nat) = i) (hn : i + 1 < K.2.2.1) (k : WP Ω d K (pc + 1) (lset2 L i (.long x)) S I J Q) : WP Ω d K pc L (.long x :: S) I J Q := by
  intro l G cA A fm p e s m args below meth c H locs ls X hP hS hl
  exact lv_lstore_n X.1 X.2.1 hd hi hl hn rfl (fun ls' hl' => k l G cA A fm p e s m args below meth c H locs ls' X hP hS (lset2_has (act_fm X) (v := .long x) hl'))
theorem wp_astore {i : Nat} {x : Nat} (hd : decode K.2.1 pc = .ok (.astore i, 2)) (hne : Nat.beq x 1010 = false) (hn : i < K.2.2.1) (k : WP Ω d K (pc + 2) (lset1 L i (.ref x)) S I J Q) : WP Ω d K pc L (.ref x :: S) I J Q := by
  intro l G cA A fm p e s m args below meth c H locs ls X hP hS hl
  have h1 : ¬ x = 1010 := fun h => by rw [h] at hne; cases hne
  have e1 : cv A fm (.ref x) = .ref (A x) := by simp [cv, h1]
  rw [List.map_cons, e1]
  exact lv_astore X.1 X.2.1 hd hl hn rfl (fun ls' hl' => k l G cA A fm p e s m args below meth c H locs ls' X hP hS (lset1_has (act_fm X) (v := .ref x) (by rw [e1]; exact hl')))
theorem wp_astoreN {i : Nat} (hd : decode K.2.1 pc = .ok (.astore i, 2)) (hn : i < K.2.2.1) (k : WP Ω d K (pc + 2) (lset1 L i .null) S I J Q) : WP Ω d K pc L (.null :: S) I J Q := by
  intro l G cA A fm p e s m args below meth c H locs ls X hP hS hl
  exact lv_astoreN X.1 X.2.1 hd hl hn rfl (fun ls' hl' => k l G cA A fm p e s m args below meth c H locs ls' X hP hS (lset1_has (act_fm X) (v := .null) hl'))
theorem has_ix {ls : Array Slot} {n i : Nat} {l : List (Nat × Value)} {v : Value} (hq : (i, v) ∈ l) : ∃ k : Nat, l[k]? = some (i, v) := List.getElem?_of_mem hq
theorem wp_iinc {i : Nat} {n : Int} {x v : Int32} (hd : decode K.2.1 pc = .ok (.iinc i n, 3)) (hx : lget L i = some (.int x)) (hv : x + Int32.ofInt n = v) (hn : i < K.2.2.1) (k : WP Ω d K (pc + 3) (lset1 L i (.int v)) S I J Q) : WP Ω d K pc L S I J Q := by
  intro l G cA A fm p e s m args below meth c H locs ls X hP hS hl
  obtain ⟨j, hj⟩ := List.getElem?_of_mem (List.mem_map.mpr ⟨(i, Value.int x), lget_mem hx, rfl⟩ : cvl A fm (i, Value.int x) ∈ L.map (cvl A fm))
  exact lv_iinc X.1 X.2.1 hd hl hj hv hn rfl (fun ls' hl' => k l G cA A fm p e s m args below meth c H locs ls' X hP hS (lset1_has (act_fm X) (v := .int v) hl'))
theorem wp_iadd {x y : Int32} (hd : decode K.2.1 pc = .ok (.iadd, 1)) (k : WP Ω d K (pc + 1) L (.int (x + y) :: S) I J Q) : WP Ω d K pc L (.int y :: .int x :: S) I J Q := by
  intro l G cA A fm p e s m args below meth c H locs ls X hP hS hl
  exact lv_iadd X.1 X.2.1 hd (k l G cA A fm p e s m args below meth c H locs ls X hP hS hl)
theorem wp_isub {x y : Int32} (hd : decode K.2.1 pc = .ok (.isub, 1)) (k : WP Ω d K (pc + 1) L (.int (x - y) :: S) I J Q) : WP Ω d K pc L (.int y :: .int x :: S) I J Q := by
  intro l G cA A fm p e s m args below meth c H locs ls X hP hS hl
  exact lv_isub X.1 X.2.1 hd (k l G cA A fm p e s m args below meth c H locs ls X hP hS hl)
theorem wp_imul {x y : Int32} (hd : decode K.2.1 pc = .ok (.imul, 1)) (k : WP Ω d K (pc + 1) L (.int (x * y) :: S) I J Q) : WP Ω d K pc L (.int y :: .int x :: S) I J Q := by
  intro l G cA A fm p e s m args below meth c H locs ls X hP hS hl
  exact lv_imul X.1 X.2.1 hd (k l G cA A fm p e s m args below meth c H locs ls X hP hS hl)
theorem wp_iand {x y : Int32} (hd : decode K.2.1 pc = .ok (.iand, 1)) (k : WP Ω d K (pc + 1) L (.int (x &&& y) :: S) I J Q) : WP Ω d K pc L (.int y :: .int x :: S) I J Q := by
  intro l G cA A fm p e s m args below meth c H locs ls X hP hS hl
  exact lv_iand X.1 X.2.1 hd (k l G cA A fm p e s m args below meth c H locs ls X hP hS hl)
theorem wp_ior {x y : Int32} (hd : decode K.2.1 pc = .ok (.ior, 1)) (k : WP Ω d K (pc + 1) L (.int (x ||| y) :: S) I J Q) : WP Ω d K pc L (.int y :: .int x :: S) I J Q := by
  intro l G cA A fm p e s m args below meth c H locs ls X hP hS hl
  exact lv_ior X.1 X.2.1 hd (k l G cA A fm p e s m args below meth c H locs ls X hP hS hl)
theorem wp_ixor {x y : Int32} (hd : decode K.2.1 pc = .ok (.ixor, 1)) (k : WP Ω d K (pc + 1) L (.int (x ^^^ y) :: S) I J Q) : WP Ω d K pc L (.int y :: .int x :: S) I J Q := by
  intro l G cA A fm p e s m args below meth c H locs ls X hP hS hl
  exact lv_ixor X.1 X.2.1 hd (k l G cA A fm p e s m args below meth c H locs ls X hP hS hl)
theorem wp_ladd {x y : Int64} (hd : decode K.2.1 pc = .ok (.ladd, 1)) (k : WP Ω d K (pc + 1) L (.long (x + y) :: S) I J Q) : WP Ω d K pc L (.long y :: .long x :: S) I J Q := by
  intro l G cA A fm p e s m args below meth c H locs ls X hP hS hl
  exact lv_ladd X.1 X.2.1 hd (k l G cA A fm p e s m args below meth c H locs ls X hP hS hl)
theorem wp_lsub {x y : Int64} (hd : decode K.2.1 pc = .ok (.lsub, 1)) (k : WP Ω d K (pc + 1) L (.long (x - y) :: S) I J Q) : WP Ω d K pc L (.long y :: .long x :: S) I J Q := by
  intro l G cA A fm p e s m args below meth c H locs ls X hP hS hl
  exact lv_lsub X.1 X.2.1 hd (k l G cA A fm p e s m args below meth c H locs ls X hP hS hl)
theorem wp_lmul {x y : Int64} (hd : decode K.2.1 pc = .ok (.lmul, 1)) (k : WP Ω d K (pc + 1) L (.long (x * y) :: S) I J Q) : WP Ω d K pc L (.long y :: .long x :: S) I J Q := by
  intro l G cA A fm p e s m args below meth c H locs ls X hP hS hl
  exact lv_lmul X.1 X.2.1 hd (k l G cA A fm p e s m args below meth c H locs ls X hP hS hl)
theorem wp_land {x y : Int64} (hd : decode K.2.1 pc = .ok (.land, 1)) (k : WP Ω d K (pc + 1) L (.long (x &&& y) :: S) I J Q) : WP Ω d K pc L (.long y :: .long x :: S) I J Q := by
  intro l G cA A fm p e s m args below meth c H locs ls X hP hS hl
  exact lv_land X.1 X.2.1 hd (k l G cA A fm p e s m args below meth c H locs ls X hP hS hl)
theorem wp_lor {x y : Int64} (hd : decode K.2.1 pc = .ok (.lor, 1)) (k : WP Ω d K (pc + 1) L (.long (x ||| y) :: S) I J Q) : WP Ω d K pc L (.long y :: .long x :: S) I J Q := by
  intro l G cA A fm p e s m args below meth c H locs ls X hP hS hl
  exact lv_lor X.1 X.2.1 hd (k l G cA A fm p e s m args below meth c H locs ls X hP hS hl)
theorem wp_lxor {x y : Int64} (hd : decode K.2.1 pc = .ok (.lxor, 1)) (k : WP Ω d K (pc + 1) L (.long (x ^^^ y) :: S) I J Q) : WP Ω d K pc L (.long y :: .long x :: S) I J Q := by
  intro l G cA A fm p e s m args below meth c H locs ls X hP hS hl
  exact lv_lxor X.1 X.2.1 hd (k l G cA A fm p e s m args below meth c H locs ls X hP hS hl)
theorem wp_lcmp {x y : Int64} (hd : decode K.2.1 pc = .ok (.lcmp, 1)) (k : WP Ω d K (pc + 1) L (.int (lg_cmp x y) :: S) I J Q) : WP Ω d K pc L (.long y :: .long x :: S) I J Q := by
  intro l G cA A fm p e s m args below meth c H locs ls X hP hS hl
  exact W.lcmp X.1 X.2.1 hd (k l G cA A fm p e s m args below meth c H locs ls X hP hS hl)
theorem wp_idiv {x y : Int32} (hd : decode K.2.1 pc = .ok (.idiv, 1)) (hne : ¬ y = 0) (k : WP Ω d K (pc + 1) L (.int (x / y) :: S) I J Q) : WP Ω d K pc L (.int y :: .int x :: S) I J Q := by
  intro l G cA A fm p e s m args below meth c H locs ls X hP hS hl
  exact lv_idiv X.1 X.2.1 hd hne (k l G cA A fm p e s m args below meth c H locs ls X hP hS hl)
theorem wp_irem {x y : Int32} (hd : decode K.2.1 pc = .ok (.irem, 1)) (hne : ¬ y = 0) (k : WP Ω d K (pc + 1) L (.int (x - x / y * y) :: S) I J Q) : WP Ω d K pc L (.int y :: .int x :: S) I J Q := by
  intro l G cA A fm p e s m args below meth c H locs ls X hP hS hl
  exact lv_irem X.1 X.2.1 hd hne (k l G cA A fm p e s m args below meth c H locs ls X hP hS hl)
theorem wp_lrem {x y : Int64} (hd : decode K.2.1 pc = .ok (.lrem, 1)) (hne : ¬ y = 0) (k : WP Ω d K (pc + 1) L (.long (x - x / y * y) :: S) I J Q) : WP Ω d K pc L (.long y :: .long x :: S) I J Q := by
  intro l G cA A fm p e s m args below meth c H locs ls X hP hS hl
  exact lv_lrem X.1 X.2.1 hd hne (k l G cA A fm p e s m args below meth c H locs ls X hP hS hl)
theorem wp_ineg {x : Int32} (hd : decode K.2.1 pc = .ok (.ineg, 1)) (k : WP Ω d K (pc + 1) L (.int (-x) :: S) I J Q) : WP Ω d K pc L (.int x :: S) I J Q := by
  intro l G cA A fm p e s m args below meth c H locs ls X hP hS hl
  exact lv_ineg X.1 X.2.1 hd (k l G cA A fm p e s m args below meth c H locs ls X hP hS hl)
theorem wp_ishl {x y : Int32} (hd : decode K.2.1 pc = .ok (.ishl, 1)) (k : WP Ω d K (pc + 1) L (.int (x <<< (y &&& 31)) :: S) I J Q) : WP Ω d K pc L (.int y :: .int x :: S) I J Q := by
  intro l G cA A fm p e s m args below meth c H locs ls X hP hS hl
  exact lv_ishl X.1 X.2.1 hd (k l G cA A fm p e s m args below meth c H locs ls X hP hS hl)
theorem wp_ishr {x y : Int32} (hd : decode K.2.1 pc = .ok (.ishr, 1)) (k : WP Ω d K (pc + 1) L (.int (x >>> (y &&& 31)) :: S) I J Q) : WP Ω d K pc L (.int y :: .int x :: S) I J Q := by
  intro l G cA A fm p e s m args below meth c H locs ls X hP hS hl
  exact lv_ishr X.1 X.2.1 hd (k l G cA A fm p e s m args below meth c H locs ls X hP hS hl)
theorem wp_iushr {x y : Int32} (hd : decode K.2.1 pc = .ok (.iushr, 1)) (k : WP Ω d K (pc + 1) L (.int ((x.toUInt32 >>> (y.toUInt32 &&& Int32.toUInt32 31)).toInt32) :: S) I J Q) : WP Ω d K pc L (.int y :: .int x :: S) I J Q := by
  intro l G cA A fm p e s m args below meth c H locs ls X hP hS hl
  exact lv_iushr X.1 X.2.1 hd rfl (k l G cA A fm p e s m args below meth c H locs ls X hP hS hl)
theorem wp_lushr {x : Int64} {y : Int32} (hd : decode K.2.1 pc = .ok (.lushr, 1)) (k : WP Ω d K (pc + 1) L (.long ((x.toUInt64 >>> (y.toInt64.toUInt64 &&& Int64.toUInt64 63)).toInt64) :: S) I J Q) : WP Ω d K pc L (.int y :: .long x :: S) I J Q := by
  intro l G cA A fm p e s m args below meth c H locs ls X hP hS hl
  exact lv_lushr X.1 X.2.1 hd rfl (k l G cA A fm p e s m args below meth c H locs ls X hP hS hl)
theorem wp_lshl {x : Int64} {y : Int32} (hd : decode K.2.1 pc = .ok (.lshl, 1)) (k : WP Ω d K (pc + 1) L (.long (x <<< (y.toInt64 &&& 63)) :: S) I J Q) : WP Ω d K pc L (.int y :: .long x :: S) I J Q := by
  intro l G cA A fm p e s m args below meth c H locs ls X hP hS hl
  exact lv_lshl X.1 X.2.1 hd rfl (k l G cA A fm p e s m args below meth c H locs ls X hP hS hl)
theorem wp_lshr {x : Int64} {y : Int32} (hd : decode K.2.1 pc = .ok (.lshr, 1)) (k : WP Ω d K (pc + 1) L (.long (x >>> (y.toInt64 &&& 63)) :: S) I J Q) : WP Ω d K pc L (.int y :: .long x :: S) I J Q := by
  intro l G cA A fm p e s m args below meth c H locs ls X hP hS hl
  exact lv_lshr X.1 X.2.1 hd rfl (k l G cA A fm p e s m args below meth c H locs ls X hP hS hl)
theorem wp_i2l {x : Int32} (hd : decode K.2.1 pc = .ok (.i2l, 1)) (k : WP Ω d K (pc + 1) L (.long (x.toInt64) :: S) I J Q) : WP Ω d K pc L (.int x :: S) I J Q := by
  intro l G cA A fm p e s m args below meth c H locs ls X hP hS hl
  exact lv_i2l X.1 X.2.1 hd rfl (k l G cA A fm p e s m args below meth c H locs ls X hP hS hl)
theorem wp_l2i {x : Int64} (hd : decode K.2.1 pc = .ok (.l2i, 1)) (k : WP Ω d K (pc + 1) L (.int (x.toInt32) :: S) I J Q) : WP Ω d K pc L (.long x :: S) I J Q := by
  intro l G cA A fm p e s m args below meth c H locs ls X hP hS hl
  exact lv_l2i X.1 X.2.1 hd rfl (k l G cA A fm p e s m args below meth c H locs ls X hP hS hl)
theorem wp_i2b {x : Int32} (hd : decode K.2.1 pc = .ok (.i2b, 1)) (k : WP Ω d K (pc + 1) L (.int (x.toInt8.toInt32) :: S) I J Q) : WP Ω d K pc L (.int x :: S) I J Q := by
  intro l G cA A fm p e s m args below meth c H locs ls X hP hS hl
  exact lv_i2b X.1 X.2.1 hd rfl (k l G cA A fm p e s m args below meth c H locs ls X hP hS hl)
theorem wp_i2c {x : Int32} (hd : decode K.2.1 pc = .ok (.i2c, 1)) (k : WP Ω d K (pc + 1) L (.int ((x.toUInt32 % 65536).toInt32) :: S) I J Q) : WP Ω d K pc L (.int x :: S) I J Q := by
  intro l G cA A fm p e s m args below meth c H locs ls X hP hS hl
  exact lv_i2c X.1 X.2.1 hd rfl (k l G cA A fm p e s m args below meth c H locs ls X hP hS hl)
theorem wp_dup {v : Value} (hd : decode K.2.1 pc = .ok (.dup, 1)) (hv : v.category = 1) (k : WP Ω d K (pc + 1) L (v :: v :: S) I J Q) : WP Ω d K pc L (v :: S) I J Q := by
  intro l G cA A fm p e s m args below meth c H locs ls X hP hS hl
  exact lv_dup X.1 X.2.1 hd (by rw [cv_cat (act_fm X)]; exact hv) (k l G cA A fm p e s m args below meth c H locs ls X hP hS hl)
theorem wp_pop {v : Value} (hd : decode K.2.1 pc = .ok (.pop, 1)) (hv : v.category = 1) (k : WP Ω d K (pc + 1) L S I J Q) : WP Ω d K pc L (v :: S) I J Q := by
  intro l G cA A fm p e s m args below meth c H locs ls X hP hS hl
  exact lv_pop X.1 X.2.1 hd (by rw [cv_cat (act_fm X)]; exact hv) (k l G cA A fm p e s m args below meth c H locs ls X hP hS hl)
theorem wp_if_eq {x : Int32} {off : Int} {tgt : Nat} (hd : decode K.2.1 pc = .ok (.ifCond .eq off, 3)) (ht : (pc : Int) + off = (tgt : Int)) (kt : x = 0 → WP Ω d K tgt L S I J Q) (kf : ¬ x = 0 → WP Ω d K (pc + 3) L S I J Q) : WP Ω d K pc L (.int x :: S) I J Q := by
  intro l G cA A fm p e s m args below meth c H locs ls X hP hS hl
  exact lv_if_eq X.1 X.2.1 hd ht (fun h => kt h l G cA A fm p e s m args below meth c H locs ls X hP hS hl) (fun h => kf h l G cA A fm p e s m args below meth c H locs ls X hP hS hl)
theorem wp_icmp_eq {x y : Int32} {off : Int} {tgt : Nat} (hd : decode K.2.1 pc = .ok (.if_icmp .eq off, 3)) (ht : (pc : Int) + off = (tgt : Int)) (kt : x = y → WP Ω d K tgt L S I J Q) (kf : ¬ x = y → WP Ω d K (pc + 3) L S I J Q) : WP Ω d K pc L (.int y :: .int x :: S) I J Q := by
  intro l G cA A fm p e s m args below meth c H locs ls X hP hS hl
  exact lv_icmp_eq X.1 X.2.1 hd ht (fun h => kt h l G cA A fm p e s m args below meth c H locs ls X hP hS hl) (fun h => kf h l G cA A fm p e s m args below meth c H locs ls X hP hS hl)
theorem wp_if_ne {x : Int32} {off : Int} {tgt : Nat} (hd : decode K.2.1 pc = .ok (.ifCond .ne off, 3)) (ht : (pc : Int) + off = (tgt : Int)) (kt : ¬ x = 0 → WP Ω d K tgt L S I J Q) (kf : x = 0 → WP Ω d K (pc + 3) L S I J Q) : WP Ω d K pc L (.int x :: S) I J Q := by
  intro l G cA A fm p e s m args below meth c H locs ls X hP hS hl
  exact lv_if_ne X.1 X.2.1 hd ht (fun h => kt h l G cA A fm p e s m args below meth c H locs ls X hP hS hl) (fun h => kf h l G cA A fm p e s m args below meth c H locs ls X hP hS hl)
theorem wp_icmp_ne {x y : Int32} {off : Int} {tgt : Nat} (hd : decode K.2.1 pc = .ok (.if_icmp .ne off, 3)) (ht : (pc : Int) + off = (tgt : Int)) (kt : ¬ x = y → WP Ω d K tgt L S I J Q) (kf : x = y → WP Ω d K (pc + 3) L S I J Q) : WP Ω d K pc L (.int y :: .int x :: S) I J Q := by
  intro l G cA A fm p e s m args below meth c H locs ls X hP hS hl
  exact lv_icmp_ne X.1 X.2.1 hd ht (fun h => kt h l G cA A fm p e s m args below meth c H locs ls X hP hS hl) (fun h => kf h l G cA A fm p e s m args below meth c H locs ls X hP hS hl)
theorem wp_if_lt {x : Int32} {off : Int} {tgt : Nat} (hd : decode K.2.1 pc = .ok (.ifCond .lt off, 3)) (ht : (pc : Int) + off = (tgt : Int)) (kt : x < 0 → WP Ω d K tgt L S I J Q) (kf : ¬ x < 0 → WP Ω d K (pc + 3) L S I J Q) : WP Ω d K pc L (.int x :: S) I J Q := by
  intro l G cA A fm p e s m args below meth c H locs ls X hP hS hl
  exact lv_if_lt X.1 X.2.1 hd ht (fun h => kt h l G cA A fm p e s m args below meth c H locs ls X hP hS hl) (fun h => kf h l G cA A fm p e s m args below meth c H locs ls X hP hS hl)
theorem wp_icmp_lt {x y : Int32} {off : Int} {tgt : Nat} (hd : decode K.2.1 pc = .ok (.if_icmp .lt off, 3)) (ht : (pc : Int) + off = (tgt : Int)) (kt : x < y → WP Ω d K tgt L S I J Q) (kf : ¬ x < y → WP Ω d K (pc + 3) L S I J Q) : WP Ω d K pc L (.int y :: .int x :: S) I J Q := by
  intro l G cA A fm p e s m args below meth c H locs ls X hP hS hl
  exact lv_icmp_lt X.1 X.2.1 hd ht (fun h => kt h l G cA A fm p e s m args below meth c H locs ls X hP hS hl) (fun h => kf h l G cA A fm p e s m args below meth c H locs ls X hP hS hl)
theorem wp_if_ge {x : Int32} {off : Int} {tgt : Nat} (hd : decode K.2.1 pc = .ok (.ifCond .ge off, 3)) (ht : (pc : Int) + off = (tgt : Int)) (kt : 0 ≤ x → WP Ω d K tgt L S I J Q) (kf : ¬ 0 ≤ x → WP Ω d K (pc + 3) L S I J Q) : WP Ω d K pc L (.int x :: S) I J Q := by
  intro l G cA A fm p e s m args below meth c H locs ls X hP hS hl
  exact lv_if_ge X.1 X.2.1 hd ht (fun h => kt h l G cA A fm p e s m args below meth c H locs ls X hP hS hl) (fun h => kf h l G cA A fm p e s m args below meth c H locs ls X hP hS hl)
theorem wp_icmp_ge {x y : Int32} {off : Int} {tgt : Nat} (hd : decode K.2.1 pc = .ok (.if_icmp .ge off, 3)) (ht : (pc : Int) + off = (tgt : Int)) (kt : y ≤ x → WP Ω d K tgt L S I J Q) (kf : ¬ y ≤ x → WP Ω d K (pc + 3) L S I J Q) : WP Ω d K pc L (.int y :: .int x :: S) I J Q := by
  intro l G cA A fm p e s m args below meth c H locs ls X hP hS hl
  exact lv_icmp_ge X.1 X.2.1 hd ht (fun h => kt h l G cA A fm p e s m args below meth c H locs ls X hP hS hl) (fun h => kf h l G cA A fm p e s m args below meth c H locs ls X hP hS hl)
theorem wp_if_gt {x : Int32} {off : Int} {tgt : Nat} (hd : decode K.2.1 pc = .ok (.ifCond .gt off, 3)) (ht : (pc : Int) + off = (tgt : Int)) (kt : 0 < x → WP Ω d K tgt L S I J Q) (kf : ¬ 0 < x → WP Ω d K (pc + 3) L S I J Q) : WP Ω d K pc L (.int x :: S) I J Q := by
  intro l G cA A fm p e s m args below meth c H locs ls X hP hS hl
  exact lv_if_gt X.1 X.2.1 hd ht (fun h => kt h l G cA A fm p e s m args below meth c H locs ls X hP hS hl) (fun h => kf h l G cA A fm p e s m args below meth c H locs ls X hP hS hl)
theorem wp_icmp_gt {x y : Int32} {off : Int} {tgt : Nat} (hd : decode K.2.1 pc = .ok (.if_icmp .gt off, 3)) (ht : (pc : Int) + off = (tgt : Int)) (kt : y < x → WP Ω d K tgt L S I J Q) (kf : ¬ y < x → WP Ω d K (pc + 3) L S I J Q) : WP Ω d K pc L (.int y :: .int x :: S) I J Q := by
  intro l G cA A fm p e s m args below meth c H locs ls X hP hS hl
  exact lv_icmp_gt X.1 X.2.1 hd ht (fun h => kt h l G cA A fm p e s m args below meth c H locs ls X hP hS hl) (fun h => kf h l G cA A fm p e s m args below meth c H locs ls X hP hS hl)
theorem wp_if_le {x : Int32} {off : Int} {tgt : Nat} (hd : decode K.2.1 pc = .ok (.ifCond .le off, 3)) (ht : (pc : Int) + off = (tgt : Int)) (kt : x ≤ 0 → WP Ω d K tgt L S I J Q) (kf : ¬ x ≤ 0 → WP Ω d K (pc + 3) L S I J Q) : WP Ω d K pc L (.int x :: S) I J Q := by
  intro l G cA A fm p e s m args below meth c H locs ls X hP hS hl
  exact lv_if_le X.1 X.2.1 hd ht (fun h => kt h l G cA A fm p e s m args below meth c H locs ls X hP hS hl) (fun h => kf h l G cA A fm p e s m args below meth c H locs ls X hP hS hl)
theorem wp_icmp_le {x y : Int32} {off : Int} {tgt : Nat} (hd : decode K.2.1 pc = .ok (.if_icmp .le off, 3)) (ht : (pc : Int) + off = (tgt : Int)) (kt : x ≤ y → WP Ω d K tgt L S I J Q) (kf : ¬ x ≤ y → WP Ω d K (pc + 3) L S I J Q) : WP Ω d K pc L (.int y :: .int x :: S) I J Q := by
  intro l G cA A fm p e s m args below meth c H locs ls X hP hS hl
  exact lv_icmp_le X.1 X.2.1 hd ht (fun h => kt h l G cA A fm p e s m args below meth c H locs ls X hP hS hl) (fun h => kf h l G cA A fm p e s m args below meth c H locs ls X hP hS hl)
theorem wp_goto {off : Int} {tgt : Nat} (hd : decode K.2.1 pc = .ok (.goto off, 3)) (ht : (pc : Int) + off = (tgt : Int)) (k : WP Ω d K tgt L S I J Q) : WP Ω d K pc L S I J Q := by
  intro l G cA A fm p e s m args below meth c H locs ls X hP hS hl
  exact lv_goto X.1 X.2.1 hd ht (k l G cA A fm p e s m args below meth c H locs ls X hP hS hl)
theorem wp_ifnonnull {x : Nat} {off : Int} {tgt : Nat} (hd : decode K.2.1 pc = .ok (.ifnonnull off, 3)) (ht : (pc : Int) + off = (tgt : Int)) (hne : Nat.beq x 1010 = false) (k : WP Ω d K tgt L S I J Q) : WP Ω d K pc L (.ref x :: S) I J Q := by
  intro l G cA A fm p e s m args below meth c H locs ls X hP hS hl
  have h1 : ¬ x = 1010 := fun h => by rw [h] at hne; cases hne
  rw [List.map_cons, show cv A fm (.ref x) = .ref (A x) by simp [cv, h1]]
  exact lv_ifnonnull X.1 X.2.1 hd ht (k l G cA A fm p e s m args below meth c H locs ls X hP hS hl)
theorem wp_ifnonnullN {off : Int} (hd : decode K.2.1 pc = .ok (.ifnonnull off, 3)) (k : WP Ω d K (pc + 3) L S I J Q) : WP Ω d K pc L (.null :: S) I J Q := by
  intro l G cA A fm p e s m args below meth c H locs ls X hP hS hl
  exact lv_ifnonnullN X.1 X.2.1 hd (k l G cA A fm p e s m args below meth c H locs ls X hP hS hl)
theorem wp_tableOut {dflt lo hi : Int} {offs : Array Int} {len : Nat} {x : Int32} {tgt : Nat} (hd : decode K.2.1 pc = .ok (.tableswitch dflt lo hi offs, len)) (h : x.toInt < lo ∨ hi < x.toInt) (ht : (pc : Int) + dflt = (tgt : Int)) (k : WP Ω d K tgt L S I J Q) : WP Ω d K pc L (.int x :: S) I J Q := by
  intro l G cA A fm p e s m args below meth c H locs ls X hP hS hl
  exact lv_tableOut X.1 X.2.1 hd h ht (k l G cA A fm p e s m args below meth c H locs ls X hP hS hl)
theorem wp_tableIn {dflt lo hi : Int} {offs : Array Int} {len : Nat} {x : Int32} {off : Int} {tgt : Nat} (hd : decode K.2.1 pc = .ok (.tableswitch dflt lo hi offs, len)) (h1 : ¬ x.toInt < lo) (h2 : ¬ hi < x.toInt) (ho : offs[(x.toInt - lo).toNat]? = some off) (ht : (pc : Int) + off = (tgt : Int)) (k : WP Ω d K tgt L S I J Q) : WP Ω d K pc L (.int x :: S) I J Q := by
  intro l G cA A fm p e s m args below meth c H locs ls X hP hS hl
  exact lv_tableIn X.1 X.2.1 hd h1 h2 ho ht (k l G cA A fm p e s m args below meth c H locs ls X hP hS hl)
theorem wp_lookup {dflt : Int} {ps : Array (Int × Int)} {len : Nat} {x : Int32} {off : Int} {tgt : Nat} (hd : decode K.2.1 pc = .ok (.lookupswitch dflt ps, len)) (hp : (ps.toList.zip (ps.toList.drop 1)).all (fun (a, next) => a.1 < next.1) = true) (ho : Op.lookupswitch.offset ps.toList dflt x.toInt = off) (ht : (pc : Int) + off = (tgt : Int)) (k : WP Ω d K tgt L S I J Q) : WP Ω d K pc L (.int x :: S) I J Q := by
  intro l G cA A fm p e s m args below meth c H locs ls X hP hS hl
  exact lv_lookup X.1 X.2.1 hd hp ho ht (k l G cA A fm p e s m args below meth c H locs ls X hP hS hl)
end RWS
end
section
/-! ROWS: fields, arrays, statics, calls, answers -/
/-- a field by its entry in a class's pool -/
def LF (own : String) (idx ci k : Nat) : Prop := ci < 7 ∧ k < cNf ci ∧ ((cTb ci) k).1 = cNm ci ∧ (Cond.fieldLink own idx (cNm ci) ((cTb ci) k).2.1 ((cTb ci) k).2.2.1 ∈ TB ∨ (own, idx, cNm ci, ((cTb ci) k).2.1, ((cTb ci) k).2.2.1, "StayWhereFell") ∈ nestF)
section HPR
variable {Ω : Shp} {d : Nat} {K : Mth} {pc : Nat} {L : Lcs} {S : List Value} {I : MemI} {J : MemJ} {Q : Pst}
variable {p : Program} {l : Launch} {e : Env} {R : Room} {s : State} {m : MethodId} {args : Array Value} {below : List Frame} {meth : Method} {c : Code} {H : Heap} {locs : List Loc} {cells slots : Nat} {Qw : State → Prop}
variable {G : va_G} {cA : Nat → ClassId} {A : Nat → Nat} {fm : Value} {ls : Array Slot} {rest : List Value}
theorem fs_get {ci a k : Nat} (hk : k < cNf ci) : ((List.range (cNf ci)).map (fun k => fvl Ω A I J ci a k))[k]? = some (fvl Ω A I J ci a k) := by
  simp [hk]
theorem x_get {q0 ci idx k y : Nat} (X : Act Ω K G cA A fm p s m args meth c) (hP : va_P G vwCl (wld cA Ω A I J) H) (hd : decode K.2.1 pc = .ok (.getfield idx, 3)) (hf : LF K.1.cls idx ci k) (ha : Ω.1[q0]? = some (0, ci, y))
    (kk : W p l e R s m args below meth c H locs cells slots Qw (F0 m (pc + 3) ls (fvl Ω A I J ci q0 k :: rest))) : W p l e R s m args below meth c H locs cells slots Qw (F0 m pc ls (.ref (A q0) :: rest)) := by
  obtain ⟨hx, hb, -, -, -, hown, hts, hK, -, -, hN⟩ := X
  obtain ⟨hci, hk, hC, hlk⟩ := hf
  rcases hlk with hlk | hlk
  · exact va_get hx hb hts (cl_in ci hci) hown hK hP q0 (wld_get ha) (cl_ok ci hci) k hk (hts _ hlk) (fun z hz => by rw [← hC]; exact hz) (fs_get hk) hd kk
  · exact va_getN hx hb hts (cl_in ci hci) hown hK hP q0 (wld_get ha) (cl_ok ci hci) k hk (va_Nw.use rfl (hN.1 _ hlk)) (fun z hz => by rw [← hC]; exact hz) (fs_get hk) hd kk
theorem x_put {q0 ci idx k y : Nat} {v : Value} {I' : MemI} {J' : MemJ} (X : Act Ω K G cA A fm p s m args meth c) (hP : va_P G vwCl (wld cA Ω A I J) H) (hS : va_S (AS Ω A s.heap.size) s.heap H locs) (hd : decode K.2.1 pc = .ok (.putfield idx, 3)) (hf : LF K.1.cls idx ci k) (ha : Ω.1[q0]? = some (0, ci, y))
    (hfin : ((cTb ci) k).2.2.2 = false) (hn : narrow (cTy ci k) v = v) (hfit : fits (cTy ci k) v = true) (hne : ∀ i q', i ≠ q0 → cel cA Ω A I' J' i q' = cel cA Ω A I J i q') (he : cel cA Ω A I' J' q0 (0, ci, y) = .inr (ci, ((List.range (cNf ci)).map (fun k => fvl Ω A I J ci q0 k)).set k v))
    (kk : ∀ (H1 : Heap) (locs1 : List Loc), va_P G vwCl (wld cA Ω A I' J') H1 → va_S (AS Ω A s.heap.size) s.heap H1 locs1 → W p l e R s m args below meth c H1 locs1 cells slots Qw (F0 m (pc + 3) ls rest)) : W p l e R s m args below meth c H locs cells slots Qw (F0 m pc ls (v :: .ref (A q0) :: rest)) := by
  obtain ⟨hx, hb, -, -, -, hown, hts, hK, hA, -, hN⟩ := X
  obtain ⟨hci, hk, hC, hlk⟩ := hf
  have hl : k < ((List.range (cNf ci)).map (fun k => fvl Ω A I J ci q0 k)).length := by simpa using hk
  rcases hlk with hlk | hlk
  · refine va_put hx hb hts (cl_in ci hci) (cTy ci) (cl_ty ci hci) (cl_nm ci hci) hown hK hP hA.D hS q0 (wld_get ha) (cl_ok ci hci) k hk (hts _ hlk) (fun z hz => by rw [← hC]; exact hz) hfin (cl_ty ci hci k hk) hn hfit hl hd (fun H1 locs1 hP1 _ hS1 => ?_)
    rw [wld_set ha hne he] at hP1
    exact kk H1 locs1 hP1 hS1
  · refine va_putN hx hb hts (cl_in ci hci) (cTy ci) (cl_ty ci hci) (cl_nm ci hci) hown hK hP hA.D hS q0 (wld_get ha) (cl_ok ci hci) k hk (va_Nw.use rfl (hN.1 _ hlk)) (fun z hz => by rw [← hC]; exact hz) hfin (cl_ty ci hci k hk) hn hfit hl hd (fun H1 locs1 hP1 _ hS1 => ?_)
    rw [wld_set ha hne he] at hP1
    exact kk H1 locs1 hP1 hS1
theorem cv_ref {i : Nat} (h : Nat.beq i 1010 = false) : cv A fm (.ref i) = .ref (A i) := by
  have h1 : ¬ i = 1010 := fun e => by rw [e] at h; cases h
  simp [cv, h1]
theorem sh_ne {q0 : Nat} {q : Nat × Nat × Nat} (hΩ : Ω.1.length ≤ 100) (ha : Ω.1[q0]? = some q) : Nat.beq q0 1010 = false := by
  have h := (List.getElem?_eq_some_iff.mp ha).1
  cases hb : Nat.beq q0 1010 with
  | false => rfl
  | true => have := Nat.eq_of_beq_eq_true hb; omega
theorem wp_getI {q0 ci idx k y : Nat} (hd : decode K.2.1 pc = .ok (.getfield idx, 3)) (hf : LF K.1.cls idx ci k) (ha : Ω.1[q0]? = some (0, ci, y)) (hb : Nat.beq q0 1010 = false) (ht : cTy ci k = .int) (kk : WP Ω d K (pc + 3) L (.int (I q0 k) :: S) I J Q) : WP Ω d K pc L (.ref q0 :: S) I J Q := by
  intro l G cA A fm p e s m args below meth c H locs ls X hP hS hl
  rw [List.map_cons, cv_ref hb]
  refine x_get X hP hd hf ha ?_
  have h2 := kk l G cA A fm p e s m args below meth c H locs ls X hP hS hl
  rwa [show fvl Ω A I J ci q0 k = .int (I q0 k) by simp [fvl, ht]]
theorem wp_getJ {q0 ci idx k y : Nat} (hd : decode K.2.1 pc = .ok (.getfield idx, 3)) (hf : LF K.1.cls idx ci k) (ha : Ω.1[q0]? = some (0, ci, y)) (hb : Nat.beq q0 1010 = false) (ht : cTy ci k = .long) (kk : WP Ω d K (pc + 3) L (.long (J q0 k) :: S) I J Q) : WP Ω d K pc L (.ref q0 :: S) I J Q := by
  intro l G cA A fm p e s m args below meth c H locs ls X hP hS hl
  rw [List.map_cons, cv_ref hb]
  refine x_get X hP hd hf ha ?_
  have h2 := kk l G cA A fm p e s m args below meth c H locs ls X hP hS hl
  rwa [show fvl Ω A I J ci q0 k = .long (J q0 k) by simp [fvl, ht]]
def isRefT (t : FieldType) : Bool := match t with
  | .object _ => true
  | .array _ => true
  | _ => false
theorem fvl_ref {ci i k : Nat} (ht : isRefT (cTy ci k) = true) : fvl Ω A I J ci i k = va_rf ((Ω.2 i k).map A) := by
  unfold fvl
  cases h : cTy ci k <;> simp_all [isRefT]
theorem wp_getR {q0 ci idx k y r : Nat} (hd : decode K.2.1 pc = .ok (.getfield idx, 3)) (hf : LF K.1.cls idx ci k) (ha : Ω.1[q0]? = some (0, ci, y)) (hb : Nat.beq q0 1010 = false) (ht : isRefT (cTy ci k) = true) (hr : Ω.2 q0 k = some r) (hr2 : Nat.beq r 1010 = false) (kk : WP Ω d K (pc + 3) L (.ref r :: S) I J Q) : WP Ω d K pc L (.ref q0 :: S) I J Q := by
  intro l G cA A fm p e s m args below meth c H locs ls X hP hS hl
  rw [List.map_cons, cv_ref hb]
  refine x_get X hP hd hf ha ?_
  have h2 := kk l G cA A fm p e s m args below meth c H locs ls X hP hS hl
  rw [List.map_cons, cv_ref hr2] at h2
  rw [fvl_ref ht, hr]
  exact h2
theorem wp_getN {q0 ci idx k y : Nat} (hd : decode K.2.1 pc = .ok (.getfield idx, 3)) (hf : LF K.1.cls idx ci k) (ha : Ω.1[q0]? = some (0, ci, y)) (hb : Nat.beq q0 1010 = false) (ht : isRefT (cTy ci k) = true) (hr : Ω.2 q0 k = none) (kk : WP Ω d K (pc + 3) L (.null :: S) I J Q) : WP Ω d K pc L (.ref q0 :: S) I J Q := by
  intro l G cA A fm p e s m args below meth c H locs ls X hP hS hl
  rw [List.map_cons, cv_ref hb]
  refine x_get X hP hd hf ha ?_
  have h2 := kk l G cA A fm p e s m args below meth c H locs ls X hP hS hl
  rw [fvl_ref ht, hr]
  exact h2
theorem map_setI {ci a k : Nat} {x : Int32} (ht : cTy ci k = .int) : (List.range (cNf ci)).map (fun j => fvl Ω A (uI I a k x) J ci a j) = ((List.range (cNf ci)).map (fun j => fvl Ω A I J ci a j)).set k (.int x) := by
  apply List.ext_getElem?
  intro j
  by_cases hj : j = k
  · subst hj
    by_cases hl : j < cNf ci
    · rw [List.getElem?_set_self (by simpa using hl)]
      simp [hl, fvl, ht, uI]
    · simp [hl]
  · rw [List.getElem?_set_ne (Ne.symm hj)]
    by_cases hl : j < cNf ci
    · simp only [List.getElem?_map, List.getElem?_range hl, Option.map_some]
      congr 1
      unfold fvl
      split <;> simp [uI, hj]
    · simp [hl]
theorem map_setJ {ci a k : Nat} {x : Int64} (ht : cTy ci k = .long) : (List.range (cNf ci)).map (fun j => fvl Ω A I (uJ J a k x) ci a j) = ((List.range (cNf ci)).map (fun j => fvl Ω A I J ci a j)).set k (.long x) := by
  apply List.ext_getElem?
  intro j
  by_cases hj : j = k
  · subst hj
    by_cases hl : j < cNf ci
    · rw [List.getElem?_set_self (by simpa using hl)]
      simp [hl, fvl, ht, uJ]
    · simp [hl]
  · rw [List.getElem?_set_ne (Ne.symm hj)]
    by_cases hl : j < cNf ci
    · simp only [List.getElem?_map, List.getElem?_range hl, Option.map_some]
      congr 1
      unfold fvl
      split <;> simp [uJ, hj]
    · simp [hl]
theorem wp_putI {q0 ci idx k y : Nat} {x : Int32} (hd : decode K.2.1 pc = .ok (.putfield idx, 3)) (hf : LF K.1.cls idx ci k) (ha : Ω.1[q0]? = some (0, ci, y)) (hb : Nat.beq q0 1010 = false) (ht : cTy ci k = .int) (hfin : ((cTb ci) k).2.2.2 = false) (kk : WP Ω d K (pc + 3) L S (uI I q0 k x) J Q) : WP Ω d K pc L (.int x :: .ref q0 :: S) I J Q := by
  intro l G cA A fm p e s m args below meth c H locs ls X hP hS hl
  rw [List.map_cons, List.map_cons, cv_ref hb]
  exact x_put X hP hS hd hf ha hfin (by rw [ht]; rfl) (by rw [ht]; rfl) (fun i q' h => cel_ne h) (congrArg (fun z => Sum.inr (ci, z)) (map_setI ht)) (fun H1 locs1 hP1 hS1 => kk l G cA A fm p e s m args below meth c H1 locs1 ls X hP1 hS1 hl)
theorem wp_putJ {q0 ci idx k y : Nat} {x : Int64} (hd : decode K.2.1 pc = .ok (.putfield idx, 3)) (hf : LF K.1.cls idx ci k) (ha : Ω.1[q0]? = some (0, ci, y)) (hb : Nat.beq q0 1010 = false) (ht : cTy ci k = .long) (hfin : ((cTb ci) k).2.2.2 = false) (kk : WP Ω d K (pc + 3) L S I (uJ J q0 k x) Q) : WP Ω d K pc L (.long x :: .ref q0 :: S) I J Q := by
  intro l G cA A fm p e s m args below meth c H locs ls X hP hS hl
  rw [List.map_cons, List.map_cons, cv_ref hb]
  exact x_put X hP hS hd hf ha hfin (by rw [ht]; rfl) (by rw [ht]; rfl) (fun i q' h => cel_neJ h) (congrArg (fun z => Sum.inr (ci, z)) (map_setJ ht)) (fun H1 locs1 hP1 hS1 => kk l G cA A fm p e s m args below meth c H1 locs1 ls X hP1 hS1 hl)
theorem upd_uI {a j : Nat} {x : Int32} : upd (I a) j x = uI I a j x a := by
  funext i; simp [upd, uI]
theorem upd_uJ {a j : Nat} {x : Int64} : vp_updL (J a) j x = uJ J a j x a := by
  funext i; simp [vp_updL, uJ]
theorem wp_iald {a j n : Nat} (hd : decode K.2.1 pc = .ok (.iaload, 1)) (ha : Ω.1[a]? = some (1, 0, n)) (hb : Nat.beq a 1010 = false) (hj : j < n) (hn : n < 65536) (kk : WP Ω d K (pc + 1) L (.int (I a j) :: S) I J Q) : WP Ω d K pc L (.int (nI j) :: .ref a :: S) I J Q := by
  intro l G cA A fm p e s m args below meth c H locs ls X hP hS hl
  rw [List.map_cons, List.map_cons, cv_ref hb]
  have h2 := kk l G cA A fm p e s m args below meth c H locs ls X hP hS hl
  refine va_iald X.1 X.2.1 X.2.2.2.2.2.2.2.1 hP a 0 (wld_get ha) rfl (vp_in_nI hj (by omega)) hd ?_
  rw [nI_clamp (by omega)]
  exact h2
theorem wp_zald {a j n : Nat} (hd : decode K.2.1 pc = .ok (.baload, 1)) (ha : Ω.1[a]? = some (1, 3, n)) (hb : Nat.beq a 1010 = false) (hj : j < n) (hn : n < 65536) (kk : WP Ω d K (pc + 1) L (.int (I a j) :: S) I J Q) : WP Ω d K pc L (.int (nI j) :: .ref a :: S) I J Q := by
  intro l G cA A fm p e s m args below meth c H locs ls X hP hS hl
  rw [List.map_cons, List.map_cons, cv_ref hb]
  have h2 := kk l G cA A fm p e s m args below meth c H locs ls X hP hS hl
  refine va_zald X.1 X.2.1 X.2.2.2.2.2.2.2.1 hP a 3 (wld_get ha) rfl (vp_in_nI hj (by omega)) hd ?_
  rw [nI_clamp (by omega)]
  exact h2
theorem wp_bald {a j n : Nat} (hd : decode K.2.1 pc = .ok (.baload, 1)) (ha : Ω.1[a]? = some (1, 2, n)) (hb : Nat.beq a 1010 = false) (hj : j < n) (hn : n < 65536) (kk : WP Ω d K (pc + 1) L (.int (I a j) :: S) I J Q) : WP Ω d K pc L (.int (nI j) :: .ref a :: S) I J Q := by
  intro l G cA A fm p e s m args below meth c H locs ls X hP hS hl
  rw [List.map_cons, List.map_cons, cv_ref hb]
  have h2 := kk l G cA A fm p e s m args below meth c H locs ls X hP hS hl
  refine va_bald X.1 X.2.1 X.2.2.2.2.2.2.2.1 hP a 2 (wld_get ha) rfl (vp_in_nI hj (by omega)) hd ?_
  rw [nI_clamp (by omega)]
  exact h2
theorem wp_lald {a j n : Nat} (hd : decode K.2.1 pc = .ok (.laload, 1)) (ha : Ω.1[a]? = some (1, 1, n)) (hb : Nat.beq a 1010 = false) (hj : j < n) (hn : n < 65536) (kk : WP Ω d K (pc + 1) L (.long (J a j) :: S) I J Q) : WP Ω d K pc L (.int (nI j) :: .ref a :: S) I J Q := by
  intro l G cA A fm p e s m args below meth c H locs ls X hP hS hl
  rw [List.map_cons, List.map_cons, cv_ref hb]
  have h2 := kk l G cA A fm p e s m args below meth c H locs ls X hP hS hl
  refine va_lald X.1 X.2.1 X.2.2.2.2.2.2.2.1 hP a 1 (wld_get ha) rfl (vp_in_nI hj (by omega)) hd ?_
  rw [nI_clamp (by omega)]
  exact h2
theorem wp_iast {a j n : Nat} {x : Int32} (hd : decode K.2.1 pc = .ok (.iastore, 1)) (ha : Ω.1[a]? = some (1, 0, n)) (hb : Nat.beq a 1010 = false) (hj : j < n) (hn : n < 65536) (kk : WP Ω d K (pc + 1) L S (uI I a j x) J Q) : WP Ω d K pc L (.int x :: .int (nI j) :: .ref a :: S) I J Q := by
  intro l G cA A fm p e s m args below meth c H locs ls X hP hS hl
  rw [List.map_cons, List.map_cons, List.map_cons, cv_ref hb]
  refine va_iast X.1 X.2.1 X.2.2.2.2.2.2.2.1 hP X.2.2.2.2.2.2.2.2.1.D hS a 0 (wld_get ha) rfl (vp_in_nI hj (by omega)) hd (fun H1 locs1 hP1 _ hS1 => ?_)
  have hw : (wld cA Ω A I J).set a (A a, .inl (cA 0, n, .inl (uI I a j x a))) = wld cA Ω A (uI I a j x) J := wld_set ha (fun i q' h => cel_ne h) rfl
  rw [nI_clamp (by omega), upd_uI, hw] at hP1
  exact kk l G cA A fm p e s m args below meth c H1 locs1 ls X hP1 hS1 hl
theorem wp_bast {a j n : Nat} {x : Int32} (hd : decode K.2.1 pc = .ok (.bastore, 1)) (ha : Ω.1[a]? = some (1, 2, n)) (hb : Nat.beq a 1010 = false) (hj : j < n) (hn : n < 65536) (kk : WP Ω d K (pc + 1) L S (uI I a j (vp_nar .byte x)) J Q) : WP Ω d K pc L (.int x :: .int (nI j) :: .ref a :: S) I J Q := by
  intro l G cA A fm p e s m args below meth c H locs ls X hP hS hl
  rw [List.map_cons, List.map_cons, List.map_cons, cv_ref hb]
  refine va_bast X.1 X.2.1 X.2.2.2.2.2.2.2.1 hP X.2.2.2.2.2.2.2.2.1.D hS a 2 (wld_get ha) rfl (vp_in_nI hj (by omega)) hd (fun H1 locs1 hP1 _ hS1 => ?_)
  have hw : (wld cA Ω A I J).set a (A a, .inl (cA 2, n, .inl (uI I a j (vp_nar .byte x) a))) = wld cA Ω A (uI I a j (vp_nar .byte x)) J := wld_set ha (fun i q' h => cel_ne h) rfl
  rw [nI_clamp (by omega), upd_uI, hw] at hP1
  exact kk l G cA A fm p e s m args below meth c H1 locs1 ls X hP1 hS1 hl
theorem wp_zast {a j n : Nat} {x : Int32} (hd : decode K.2.1 pc = .ok (.bastore, 1)) (ha : Ω.1[a]? = some (1, 3, n)) (hb : Nat.beq a 1010 = false) (hj : j < n) (hn : n < 65536) (kk : WP Ω d K (pc + 1) L S (uI I a j (vp_nar .boolean x)) J Q) : WP Ω d K pc L (.int x :: .int (nI j) :: .ref a :: S) I J Q := by
  intro l G cA A fm p e s m args below meth c H locs ls X hP hS hl
  rw [List.map_cons, List.map_cons, List.map_cons, cv_ref hb]
  refine va_zast X.1 X.2.1 X.2.2.2.2.2.2.2.1 hP X.2.2.2.2.2.2.2.2.1.D hS a 3 (wld_get ha) rfl (vp_in_nI hj (by omega)) hd (fun H1 locs1 hP1 _ hS1 => ?_)
  have hw : (wld cA Ω A I J).set a (A a, .inl (cA 3, n, .inl (uI I a j (vp_nar .boolean x) a))) = wld cA Ω A (uI I a j (vp_nar .boolean x)) J := wld_set ha (fun i q' h => cel_ne h) rfl
  rw [nI_clamp (by omega), upd_uI, hw] at hP1
  exact kk l G cA A fm p e s m args below meth c H1 locs1 ls X hP1 hS1 hl
theorem wp_last {a j n : Nat} {x : Int64} (hd : decode K.2.1 pc = .ok (.lastore, 1)) (ha : Ω.1[a]? = some (1, 1, n)) (hb : Nat.beq a 1010 = false) (hj : j < n) (hn : n < 65536) (kk : WP Ω d K (pc + 1) L S I (uJ J a j x) Q) : WP Ω d K pc L (.long x :: .int (nI j) :: .ref a :: S) I J Q := by
  intro l G cA A fm p e s m args below meth c H locs ls X hP hS hl
  rw [List.map_cons, List.map_cons, List.map_cons, cv_ref hb]
  refine va_last X.1 X.2.1 X.2.2.2.2.2.2.2.1 hP X.2.2.2.2.2.2.2.2.1.D hS a 1 (wld_get ha) rfl (vp_in_nI hj (by omega)) hd (fun H1 locs1 hP1 _ hS1 => ?_)
  have hw : (wld cA Ω A I J).set a (A a, .inl (cA 1, n, .inr (.inl (uJ J a j x a)))) = wld cA Ω A I (uJ J a j x) := wld_set ha (fun i q' h => cel_neJ h) rfl
  rw [nI_clamp (by omega), upd_uJ, hw] at hP1
  exact kk l G cA A fm p e s m args below meth c H1 locs1 ls X hP1 hS1 hl
theorem wp_alen {a t n : Nat} (hd : decode K.2.1 pc = .ok (.arraylength, 1)) (ha : Ω.1[a]? = some (1, t, n)) (hb : Nat.beq a 1010 = false) (ht : t < 4) (kk : WP Ω d K (pc + 1) L (.int (nI n) :: S) I J Q) : WP Ω d K pc L (.ref a :: S) I J Q := by
  intro l G cA A fm p e s m args below meth c H locs ls X hP hS hl
  rw [List.map_cons, cv_ref hb]
  have h2 := kk l G cA A fm p e s m args below meth c H locs ls X hP hS hl
  match t, ht with
  | 0, _ => exact va_alen X.1 X.2.1 X.2.2.2.2.2.2.2.1 hP a 0 (wld_get ha) (ty := .int) rfl rfl hd h2
  | 1, _ => exact va_alen X.1 X.2.1 X.2.2.2.2.2.2.2.1 hP a 1 (wld_get ha) (ty := .long) rfl rfl hd h2
  | 2, _ => exact va_alen X.1 X.2.1 X.2.2.2.2.2.2.2.1 hP a 2 (wld_get ha) (ty := .byte) rfl rfl hd h2
  | 3, _ => exact va_alen X.1 X.2.1 X.2.2.2.2.2.2.2.1 hP a 3 (wld_get ha) (ty := .boolean) rfl rfl hd h2
end HPR
end
section
/-! ROWS: read-only cells, calls, answers -/
section CLR
variable {Ω : Shp} {d : Nat} {K : Mth} {pc : Nat} {L : Lcs} {S : List Value} {I : MemI} {J : MemJ} {Q : Pst}
variable {p : Program} {l : Launch} {e : Env} {R : Room} {s : State} {m : MethodId} {args : Array Value} {below : List Frame} {meth : Method} {c : Code} {H : Heap} {locs : List Loc} {cells slots : Nat} {Qw : State → Prop}
variable {G : va_G} {cA : Nat → ClassId} {A : Nat → Nat} {fm : Value} {ls : Array Slot} {rest : List Value}
theorem act_roe (X : Act Ω K G cA A fm p s m args meth c) : Roe A fm (AS Ω A s.heap.size) s s.heap := X.2.2.2.2.2.2.2.2.2.1
theorem wp_gets {idx i : Nat} {nm : String} (hd : decode K.2.1 pc = .ok (.getstatic idx, 3)) (hq : (nm, i) ∈ roS) (hk : Cond.fieldLink K.1.cls idx RX0 nm "[I" ∈ TB) (hb : Nat.beq i 1010 = false) (kk : WP Ω d K (pc + 3) L (.ref i :: S) I J Q) : WP Ω d K pc L S I J Q := by
  intro l G cA A fm p e s m args below meth c H locs ls X hP hS hl
  have h2 := kk l G cA A fm p e s m args below meth c H locs ls X hP hS hl
  rw [List.map_cons, cv_ref hb] at h2
  exact va_gets X.1 X.2.1 ((act_roe X).1.1 _ hq) hS X.2.2.2.2.2.1 (X.2.2.2.2.2.2.1 _ hk) (fun _ h => h) hd h2
theorem wp_getsZ {idx : Nat} (hd : decode K.2.1 pc = .ok (.getstatic idx, 3)) (hk : Cond.fieldLink K.1.cls idx RJ0 "COMPACT_STRINGS" "Z" ∈ TB) (kk : WP Ω d K (pc + 3) L (.int 1 :: S) I J Q) : WP Ω d K pc L S I J Q := by
  intro l G cA A fm p e s m args below meth c H locs ls X hP hS hl
  exact va_gets X.1 X.2.1 ((act_roe X).2.2.2.1) hS X.2.2.2.2.2.1 (X.2.2.2.2.2.2.1 _ hk) (fun _ h => h) hd (kk l G cA A fm p e s m args below meth c H locs ls X hP hS hl)
theorem wp_getsF {idx : Nat} (hd : decode K.2.1 pc = .ok (.getstatic idx, 3)) (hk : Cond.fieldLink K.1.cls idx "jdk/internal/util/Preconditions" "SIOOBE_FORMATTER" "Ljava/util/function/BiFunction;" ∈ TB) (kk : WP Ω d K (pc + 3) L (.ref 1010 :: S) I J Q) : WP Ω d K pc L S I J Q := by
  intro l G cA A fm p e s m args below meth c H locs ls X hP hS hl
  exact va_gets X.1 X.2.1 ((act_roe X).2.2.2.2.1) hS X.2.2.2.2.2.1 (X.2.2.2.2.2.2.1 _ hk) (fun _ h => h) hd (kk l G cA A fm p e s m args below meth c H locs ls X hP hS hl)
theorem wp_ialdT {i j : Nat} (hd : decode K.2.1 pc = .ok (.iaload, 1)) (h1 : 1000 ≤ i) (h2 : i < 1004) (hj : j < 8) (kk : WP Ω d K (pc + 1) L (.int ((roT i).getD j 0) :: S) I J Q) : WP Ω d K pc L (.int (nI j) :: .ref i :: S) I J Q := by
  intro l G cA A fm p e s m args below meth c H locs ls X hP hS hl
  have hb : Nat.beq i 1010 = false := by
    cases hb : Nat.beq i 1010 with
    | false => rfl
    | true => have := Nat.eq_of_beq_eq_true hb; omega
  rw [List.map_cons, List.map_cons, cv_ref hb]
  obtain ⟨cell, e1, e2, e3, e4, -, e6, -⟩ := ((act_roe X).1.2 i h1 h2).kept hS.2.1
  refine W.iald X.1 X.2.1 e1 e2 e3 (fun q => ?_) (v := .int ((roT i).getD j 0)) ?_ rfl rfl hd (kk l G cA A fm p e s m args below meth c H locs ls X hP hS hl)
  · rcases q with q | q
    · exact nI_pos (by omega) q
    · rw [nI_clamp (by omega)] at q; omega
  · rw [nI_clamp (by omega)]; exact e6 j hj
theorem x_ldcwS (hexec : p.tables.exec = Jvm.exec) {cc : ByteArray} (hbb : c.code = cc) {own tx : String} {index q : Nat} (hown : s.vm.findClass own = some m.cls) (hZ : vk_R own index tx q s) (hdg : decode cc pc = .ok (.ldc_w index, 3))
    (k : W p l e R s m args below meth c H locs cells slots Qw (F0 m (pc + 3) ls (.ref q :: rest))) : W p l e R s m args below meth c H locs cells slots Qw (F0 m pc ls rest) := by
  intro T hT X
  obtain ⟨t, a1, b1⟩ := k T hT X
  obtain ⟨kk, cf, i, a', hk, hcf, hcp, -, hr, hev'⟩ := Cond.stringRef_spec hown hZ.1
  cases hZ.2.symm.trans hev'
  obtain ⟨k', hk', he⟩ := X.warmed.alike.2.2 _ _ hk
  have hr' : k'.resolved[index]? = some (some (.string q)) := by
    rcases X.warmed.entry hk hk' index with h | ⟨h, -⟩
    · rw [h]; exact hr
    · rw [hr] at h; cases h
  subst hbb
  refine ⟨t, ?_, b1⟩
  jvm_step X.here [hexec, hdg, ldc_w.wp_string (e := e) (s := T) (f := F0 m pc ls rest) X.here.top hk' (by rw [he]; exact hcf) hcp hr']
  exact a1
theorem wp_ldcS5 (hd : decode K.2.1 pc = .ok (.ldc_w 268, 3)) (ho : K.1.cls = RX5) (kk : WP Ω d K (pc + 3) L (.ref 1004 :: S) I J Q) : WP Ω d K pc L S I J Q := by
  intro l G cA A fm p e s m args below meth c H locs ls X hP hS hl
  have h2 := kk l G cA A fm p e s m args below meth c H locs ls X hP hS hl
  rw [List.map_cons, cv_ref rfl] at h2
  exact x_ldcwS X.1 X.2.1 (ho ▸ X.2.2.2.2.2.1) (act_roe X).2.2.1.1 hd h2
theorem wp_ldcS4 (hd : decode K.2.1 pc = .ok (.ldc 34, 2)) (ho : K.1.cls = RX4) (kk : WP Ω d K (pc + 2) L (.ref 1005 :: S) I J Q) : WP Ω d K pc L S I J Q := by
  intro l G cA A fm p e s m args below meth c H locs ls X hP hS hl
  have h2 := kk l G cA A fm p e s m args below meth c H locs ls X hP hS hl
  rw [List.map_cons, cv_ref rfl] at h2
  exact va_ldcS X.1 X.2.1 (ho ▸ X.2.2.2.2.2.1) (act_roe X).2.2.1.2 hd h2
theorem ro_beq {i : Nat} (h2 : i < 1010) : Nat.beq i 1010 = false := by
  cases hb : Nat.beq i 1010 with
  | false => rfl
  | true => have := Nat.eq_of_beq_eq_true hb; omega
theorem wp_getfC {i idx : Nat} (hd : decode K.2.1 pc = .ok (.getfield idx, 3)) (h1 : 1004 ≤ i) (h2 : i < 1006) (hk : Cond.fieldLink K.1.cls idx RJ0 "coder" "B" ∈ TB) (kk : WP Ω d K (pc + 3) L (.int 0 :: S) I J Q) : WP Ω d K pc L (.ref i :: S) I J Q := by
  intro l G cA A fm p e s m args below meth c H locs ls X hP hS hl
  rw [List.map_cons, cv_ref (ro_beq (by omega))]
  exact vk_getf X.1 X.2.1 ((act_roe X).2.1 i h1 h2).2.1 hS X.2.2.2.2.2.1 (X.2.2.2.2.2.2.1 _ hk) (fun _ h => h) hd (kk l G cA A fm p e s m args below meth c H locs ls X hP hS hl)
theorem wp_getfV {i idx : Nat} (hd : decode K.2.1 pc = .ok (.getfield idx, 3)) (h1 : 1004 ≤ i) (h2 : i < 1006) (hk : Cond.fieldLink K.1.cls idx RJ0 "value" "[B" ∈ TB) (kk : WP Ω d K (pc + 3) L (.ref (i + 2) :: S) I J Q) : WP Ω d K pc L (.ref i :: S) I J Q := by
  intro l G cA A fm p e s m args below meth c H locs ls X hP hS hl
  have h3 := kk l G cA A fm p e s m args below meth c H locs ls X hP hS hl
  rw [List.map_cons, cv_ref (ro_beq (by omega))] at h3 ⊢
  exact vk_getf X.1 X.2.1 ((act_roe X).2.1 i h1 h2).2.2.1 hS X.2.2.2.2.2.1 (X.2.2.2.2.2.2.1 _ hk) (fun _ h => h) hd h3
theorem wp_alenT {i : Nat} (hd : decode K.2.1 pc = .ok (.arraylength, 1)) (h1 : 1006 ≤ i) (h2 : i < 1008) (kk : WP Ω d K (pc + 1) L (.int (nI 12) :: S) I J Q) : WP Ω d K pc L (.ref i :: S) I J Q := by
  intro l G cA A fm p e s m args below meth c H locs ls X hP hS hl
  obtain ⟨i, rfl⟩ : ∃ j, i = j + 2 := ⟨i - 2, by omega⟩
  rw [List.map_cons, cv_ref (ro_beq (by omega))]
  obtain ⟨cell, e1, e2, e3, e4, e5, e6, -⟩ := ((act_roe X).2.1 i (by omega) (by omega)).2.2.2.kept hS.2.1
  exact W.alen X.1 X.2.1 e1 e2 e5 rfl rfl hd (kk l G cA A fm p e s m args below meth c H locs ls X hP hS hl)
theorem wp_baldT {i j : Nat} (hd : decode K.2.1 pc = .ok (.baload, 1)) (h1 : 1006 ≤ i) (h2 : i < 1008) (hj : j < 12) (kk : WP Ω d K (pc + 1) L (.int ((roT i).getD j 0) :: S) I J Q) : WP Ω d K pc L (.int (nI j) :: .ref i :: S) I J Q := by
  intro l G cA A fm p e s m args below meth c H locs ls X hP hS hl
  obtain ⟨i, rfl⟩ : ∃ j, i = j + 2 := ⟨i - 2, by omega⟩
  rw [List.map_cons, List.map_cons, cv_ref (ro_beq (by omega))]
  obtain ⟨cell, e1, e2, e3, e4, -, e6, -⟩ := ((act_roe X).2.1 i (by omega) (by omega)).2.2.2.kept hS.2.1
  refine W.bald X.1 X.2.1 e1 e2 e3 (fun q => ?_) (v := .int ((roT (i + 2)).getD j 0)) ?_ rfl rfl hd (kk l G cA A fm p e s m args below meth c H locs ls X hP hS hl)
  · rcases q with q | q
    · exact nI_pos (by omega) q
    · rw [nI_clamp (by omega)] at q; omega
  · rw [nI_clamp (by omega)]; exact e6 j hj
/-! answers -/
theorem wp_ireturn {x : Int32} (hd : decode K.2.1 pc = .ok (.ireturn, 1)) (hr : K.2.2.2 = some .int) (kk : Q (some (.int x)) I J) : WP Ω d K pc L [.int x] I J Q := by
  intro l G cA A fm p e s m args below meth c H locs ls X hP hS hl
  exact W.iret X.1 X.2.1 (X.2.2.1.trans hr) (fun t ht hW => ⟨⟨some (.int x), I, J, rfl, kk, by rw [ht]; exact hP⟩, hS.F ht⟩) hS.2.2 hd X.2.2.2.1
theorem wp_zreturn {x : Int32} {ty : FieldType} (hd : decode K.2.1 pc = .ok (.ireturn, 1)) (hr : K.2.2.2 = some ty) (hn : narrow ty (.int x) = .int x) (kk : Q (some (.int x)) I J) : WP Ω d K pc L [.int x] I J Q := by
  intro l G cA A fm p e s m args below meth c H locs ls X hP hS hl
  exact W.zret X.1 X.2.1 (X.2.2.1.trans hr) hn (fun t ht hW => ⟨⟨some (.int x), I, J, rfl, kk, by rw [ht]; exact hP⟩, hS.F ht⟩) hS.2.2 hd X.2.2.2.1
theorem wp_lreturn {x : Int64} (hd : decode K.2.1 pc = .ok (.lreturn, 1)) (hr : K.2.2.2 = some .long) (kk : Q (some (.long x)) I J) : WP Ω d K pc L [.long x] I J Q := by
  intro l G cA A fm p e s m args below meth c H locs ls X hP hS hl
  exact W.lret X.1 X.2.1 (X.2.2.1.trans hr) (fun t ht hW => ⟨⟨some (.long x), I, J, rfl, kk, by rw [ht]; exact hP⟩, hS.F ht⟩) hS.2.2 hd X.2.2.2.1
theorem wp_return (hd : decode K.2.1 pc = .ok (.return_, 1)) (hr : K.2.2.2 = none) (kk : Q none I J) : WP Ω d K pc L [] I J Q := by
  intro l G cA A fm p e s m args below meth c H locs ls X hP hS hl
  exact W.vret X.1 X.2.1 (X.2.2.1.trans hr) (fun t ht hW => ⟨⟨none, I, J, rfl, kk, by rw [ht]; exact hP⟩, hS.F ht⟩) hS.2.2 hd X.2.2.2.1
/-! calls -/
def MVn (K' : Mth) (n : Nat) : Prop := (K'.1.cls ≠ "java/lang/invoke/MethodHandle" ∧ K'.1.cls ≠ "java/lang/invoke/VarHandle" ∧ (parseMethodDescriptor K'.1.desc).map (fun d => d.parameters.length) = some n) ∧ Cond.code K'.1 K'.2.1 K'.2.2.1 K'.2.2.2 ∈ TB ∧ Cond.initialized K'.1.cls ∈ TB ∧ K'.2.2.1 ≤ 30
def MIn (K' : Mth) (n : Nat) : Prop := MVn K' n ∧ Cond.instanceMethod K'.1 ∈ TB ∧ Cond.selects K'.1.cls K'.1 K'.1 ∈ TB
def MSn (K' : Mth) (n : Nat) : Prop := MVn K' n ∧ Cond.static K'.1 ∈ TB
def LM (own : String) (idx : Nat) (K' : Mth) : Prop := Cond.methodLink own idx K'.1 ∈ TB ∨ (own, idx, K'.1, "StayWhereFell") ∈ nestM
theorem tb_gi {ws : List Cond} (h : ∀ w ∈ ws, w ∈ TB) : GoodIn TB ws := fun w hw => ⟨h w hw, good_of_word (tb_good (h w hw))⟩
theorem tb_ws {K' : Mth} {n : Nat} (h : MVn K' n) : ∀ w ∈ wsK K', w ∈ TB := fun w hw => (List.mem_cons.mp hw).elim (fun q => by rw [q]; exact h.2.1) (fun q => q)
theorem rmD_le {K' : Mth} {n : Nat} (h : MVn K' n) : (rmD d).frames + 1 ≤ (rmD (d + 1)).frames ∧ 8 + (K'.2.2.1 + 11) + (rmD d).locals ≤ (rmD (d + 1)).locals := by
  have := h.2.2.2
  refine ⟨Nat.le_refl _, ?_⟩
  show 8 + (K'.2.2.1 + 11) + 50 * d ≤ 50 * (d + 1)
  omega
theorem pc_blind {sz : Nat} {as : List Value} : FrameBlind (PCn Ω G cA A fm sz as I J) := fun a U g mk q => by
  obtain ⟨q0, q1, qP, qK, qA, qR, qN⟩ := q
  exact ⟨q0, q1, qP, va_K.moved (u := U) (U := U.calling g mk a) (Vm.Alike.refl U.vm) qK, qA, qR.same rfl, qN.same rfl⟩
theorem AS_sub {n sz : Nat} (h : sz ≤ n) : ∀ q, AS Ω A n q → AS Ω A sz q := fun q hq => hq.elim Or.inl (fun z => Or.inr (Nat.le_trans h z))
theorem pc_at {as : List Value} (X : Act Ω K G cA A fm p s m args meth c) (hP : va_P G vwCl (wld cA Ω A I J) H) (hS : va_S (AS Ω A s.heap.size) s.heap H locs) : ∀ U : State, U.heap = H → s.WarmedH U.vm → PCn Ω G cA A fm H.size as I J (as.map (cv A fm)).toArray U := by
  intro U hU hW
  obtain ⟨-, -, -, -, -, -, -, hK, hA, hR, hN⟩ := X
  exact ⟨rfl, by rw [hU], by rw [hU]; exact hP, va_K.moved hW.alike hK, hA, by rw [hU]; exact hR.go hW hS.2.1 (AS_sub hS.1), hN.warm hW⟩
theorem x_callR {a : Array Value} {st0 : List Value} {Q' : Pst} (hS : va_S (AS Ω A s.heap.size) s.heap H locs) (R : va_Run p l e (rmD (d + 1)) s m args below meth c H locs 0 0 0 0 (F0 m pc ls st0) rest (QCn Ω G cA A fm Q' a) (AS Ω A H.size))
    (kk : ∀ (r : Option Value) (I' : MemI) (J' : MemJ) (H1 : Heap) (locs1 : List Loc), Q' r I' J' → va_P G vwCl (wld cA Ω A I' J') H1 → va_S (AS Ω A s.heap.size) s.heap H1 locs1 → W p l e (rmD (d + 1)) s m args below meth c H1 locs1 0 0 Qw (F0 m (pc + 3) ls ((r.map (cv A fm)).toList ++ rest))) : W p l e (rmD (d + 1)) s m args below meth c H locs 0 0 Qw (F0 m pc ls st0) := by
  intro T hT XT
  obtain ⟨v, st₀, t, T', Lx, h0, X', hL, e1, e2, ⟨⟨r, I', J', hv, hq, hp⟩, hz, hk⟩, st⟩ := R T hT XT
  cases hv
  rw [h0] at hz hk
  obtain ⟨t2, a1, b1⟩ := kk r I' J' t.heap (locs ++ Lx) hq hp ⟨Nat.le_trans hS.1 hz, fun q h1 h2 => by
      rw [hk q (Nat.lt_of_lt_of_le h1 hS.1) (fun z => h2 (AS_sub hS.1 q z))]
      exact hS.2.1 q h1 h2, fun q hq => by
      rcases List.mem_append.mp hq with h | h
      · exact hS.2.2 q h
      · exact AS_sub hS.1 _ (hL q h)⟩ T' e1 X'
  exact ⟨t2, st t2 a1, b1⟩
theorem map_ret (r : Option Value) : (r.toList ++ S).map (cv A fm) = (r.map (cv A fm)).toList ++ S.map (cv A fm) := by
  cases r <;> simp
theorem sum_cat (h : fm.category = 1) {n : Nat} (hw : (S.map fun v => v.category).sum ≤ n) : ((S.map (cv A fm)).map fun v => v.category).sum ≤ n := by
  rw [map_cat h]; exact hw
theorem wp_callV {q0 ci y idx n : Nat} {as St : List Value} {K' : Mth} {Q' : Pst} (hd : decode K.2.1 pc = .ok (.invokevirtual idx, 3)) (lk : LM K.1.cls idx K') (mi : MIn K' n) (ha : Ω.1[q0]? = some (0, ci, y)) (hb : Nat.beq q0 1010 = false) (hci : ci < 7) (hc : cNm ci = K'.1.cls) (hn : as.length = n) (hst : St = as.reverse ++ .ref q0 :: S) (hw : (S.map fun v => v.category).sum ≤ 8) (hC : CALL Ω d K' (.ref q0 :: as) I J Q')
    (kk : ∀ r I' J', Q' r I' J' → WP Ω (d + 1) K (pc + 3) L (r.toList ++ S) I' J' Q) : WP Ω (d + 1) K pc L St I J Q := by
  intro l G cA A fm p e s m args below meth c H locs ls X hP hS hl
  subst hst
  have e1 : (as.reverse ++ .ref q0 :: S).map (cv A fm) = (as.map (cv A fm)).reverse ++ .ref (A q0) :: S.map (cv A fm) := by
    rw [List.map_append, List.map_reverse, List.map_cons, cv_ref hb]
  rw [e1]
  have hrecv : ∃ cellB : Cell, H[A q0]? = some cellB ∧ cellB.vm.isStatics = false ∧ s.vm.findClass K'.1.cls = some cellB.cls := hc ▸ va_recv X.2.2.2.2.2.2.2.1 hP (cl_ok ci hci) (wld_get ha)
  have hpre : ∀ U : State, U.heap = H → s.WarmedH U.vm → PCn Ω G cA A fm H.size (.ref q0 :: as) I J (Value.ref (A q0) :: as.map (cv A fm)).toArray U := by
    have := pc_at (as := .ref q0 :: as) X hP hS
    rw [List.map_cons, cv_ref hb] at this
    exact this
  refine x_callR (G := G) (cA := cA) (A := A) (fm := fm) (Ω := Ω) (rest := S.map (cv A fm)) hS (Q' := Q') (a := (Value.ref (A q0) :: as.map (cv A fm)).toArray) ?_ (fun r I' J' H1 locs1 hq hP1 hS1 => ?_)
  · rcases lk with lk | lk
    · exact va_runV (As := as.map (cv A fm)) ⟨X.1, X.2.1, X.2.2.2.2.1, X.2.2.2.2.2.1, X.2.2.2.2.2.2.1⟩ (hC l G cA A fm H.size)
        (cwV n X.2.2.2.2.2.2.1 (C := K'.1.cls) (tb_gi (fun w hw => by
          rcases List.mem_append.mp hw with h | h
          · simp only [List.mem_cons, List.not_mem_nil, or_false] at h
            rcases h with rfl | rfl | rfl | rfl
            · exact lk
            · exact mi.2.1
            · exact mi.2.2
            · exact mi.1.2.2.1
          · exact tb_ws mi.1 w h)) rfl rfl rfl ⟨rfl, mi.1.1⟩ (rmD_le mi.1)) ⟨pc_blind, hrecv, hpre⟩ rfl (by simpa using hn) hl.1 rfl (lv_room (sum_cat (act_fm X) hw)) hd ⟨Nat.zero_le _, Nat.zero_le _⟩
    · exact va_runVN (As := as.map (cv A fm)) (C := K'.1.cls) ⟨X.1, X.2.1, X.2.2.2.2.1, X.2.2.2.2.2.1, X.2.2.2.2.2.2.1⟩ (hC l G cA A fm H.size)
        ⟨va_cnB n X.2.2.2.2.2.2.1 (tb_gi (tb_ws mi.1)) rfl rfl rfl (X.2.2.2.2.2.2.2.2.2.2.2 _ lk) (X.2.2.2.2.2.2.1 _ mi.1.2.2.1) mi.1.1 (rmD_le mi.1), X.2.2.2.2.2.2.1 _ mi.2.1, X.2.2.2.2.2.2.1 _ mi.2.2⟩ ⟨pc_blind, hrecv, hpre⟩ rfl (by simpa using hn) hl.1 rfl (lv_room (sum_cat (act_fm X) hw)) hd ⟨Nat.zero_le _, Nat.zero_le _⟩
  · have h2 := kk r I' J' hq l G cA A fm p e s m args below meth c H1 locs1 ls X hP1 hS1 hl
    rw [map_ret] at h2
    exact h2
theorem wp_callT {q0 idx n : Nat} {as St : List Value} {K' : Mth} {Q' : Pst} (hd : decode K.2.1 pc = .ok (.invokevirtual idx, 3)) (lk : Cond.methodLink K.1.cls idx K'.1 ∈ TB) (mi : MIn K' n) (h1 : 1004 ≤ q0) (h2 : q0 < 1006) (hc : K'.1.cls = RJ0) (hn : as.length = n) (hst : St = as.reverse ++ .ref q0 :: S) (hw : (S.map fun v => v.category).sum ≤ 8) (hC : CALL Ω d K' (.ref q0 :: as) I J Q')
    (kk : ∀ r I' J', Q' r I' J' → WP Ω (d + 1) K (pc + 3) L (r.toList ++ S) I' J' Q) : WP Ω (d + 1) K pc L St I J Q := by
  intro l G cA A fm p e s m args below meth c H locs ls X hP hS hl
  subst hst
  have hb : Nat.beq q0 1010 = false := ro_beq (by omega)
  have e1 : (as.reverse ++ .ref q0 :: S).map (cv A fm) = (as.map (cv A fm)).reverse ++ .ref (A q0) :: S.map (cv A fm) := by
    rw [List.map_append, List.map_reverse, List.map_cons, cv_ref hb]
  rw [e1]
  have hrecv : ∃ cellB : Cell, H[A q0]? = some cellB ∧ cellB.vm.isStatics = false ∧ s.vm.findClass K'.1.cls = some cellB.cls := by
    obtain ⟨cell, g1, g2, g3, -⟩ := ((act_roe X).2.1 q0 h1 h2).1.kept hS.2.1
    exact ⟨cell, g1, g2, by rw [hc]; exact g3⟩
  have hpre : ∀ U : State, U.heap = H → s.WarmedH U.vm → PCn Ω G cA A fm H.size (.ref q0 :: as) I J (Value.ref (A q0) :: as.map (cv A fm)).toArray U := by
    have := pc_at (as := .ref q0 :: as) X hP hS
    rw [List.map_cons, cv_ref hb] at this
    exact this
  refine x_callR (G := G) (cA := cA) (A := A) (fm := fm) (Ω := Ω) (rest := S.map (cv A fm)) hS (Q' := Q') (a := (Value.ref (A q0) :: as.map (cv A fm)).toArray) ?_ (fun r I' J' H1 locs1 hq hP1 hS1 => ?_)
  · exact va_runV (As := as.map (cv A fm)) ⟨X.1, X.2.1, X.2.2.2.2.1, X.2.2.2.2.2.1, X.2.2.2.2.2.2.1⟩ (hC l G cA A fm H.size)
        (cwV n X.2.2.2.2.2.2.1 (C := K'.1.cls) (tb_gi (fun w hw => by
          rcases List.mem_append.mp hw with h | h
          · simp only [List.mem_cons, List.not_mem_nil, or_false] at h
            rcases h with rfl | rfl | rfl | rfl
            · exact lk
            · exact mi.2.1
            · exact mi.2.2
            · exact mi.1.2.2.1
          · exact tb_ws mi.1 w h)) rfl rfl rfl ⟨rfl, mi.1.1⟩ (rmD_le mi.1)) ⟨pc_blind, hrecv, hpre⟩ rfl (by simpa using hn) hl.1 rfl (lv_room (sum_cat (act_fm X) hw)) hd ⟨Nat.zero_le _, Nat.zero_le _⟩
  · have h2 := kk r I' J' hq l G cA A fm p e s m args below meth c H1 locs1 ls X hP1 hS1 hl
    rw [map_ret] at h2
    exact h2
theorem wp_callS {idx n : Nat} {as St : List Value} {K' : Mth} {Q' : Pst} (hd : decode K.2.1 pc = .ok (.invokestatic idx, 3)) (lk : LM K.1.cls idx K') (mi : MSn K' n) (hn : as.length = n) (hst : St = as.reverse ++ S) (hw : (S.map fun v => v.category).sum ≤ 8) (hC : CALL Ω d K' as I J Q')
    (kk : ∀ r I' J', Q' r I' J' → WP Ω (d + 1) K (pc + 3) L (r.toList ++ S) I' J' Q) : WP Ω (d + 1) K pc L St I J Q := by
  intro l G cA A fm p e s m args below meth c H locs ls X hP hS hl
  subst hst
  have e1 : (as.reverse ++ S).map (cv A fm) = (as.map (cv A fm)).reverse ++ S.map (cv A fm) := by
    rw [List.map_append, List.map_reverse]
  rw [e1]
  have hpre := pc_at (as := as) X hP hS
  refine x_callR (G := G) (cA := cA) (A := A) (fm := fm) (Ω := Ω) (rest := S.map (cv A fm)) hS (Q' := Q') (a := (as.map (cv A fm)).toArray) ?_ (fun r I' J' H1 locs1 hq hP1 hS1 => ?_)
  · rcases lk with lk | lk
    · exact va_runS (As := as.map (cv A fm)) ⟨X.1, X.2.1, X.2.2.2.2.1, X.2.2.2.2.2.1, X.2.2.2.2.2.2.1⟩ (hC l G cA A fm H.size)
        (va_cwS n X.2.2.2.2.2.2.1 (tb_gi (fun w hw => by
          rcases List.mem_append.mp hw with h | h
          · simp only [List.mem_cons, List.not_mem_nil, or_false] at h
            rcases h with rfl | rfl | rfl
            · exact lk
            · exact mi.2
            · exact mi.1.2.2.1
          · exact tb_ws mi.1 w h)) rfl rfl rfl mi.1.1 (rmD_le mi.1)) ⟨pc_blind, hpre⟩ rfl (by simpa using hn) hl.1 rfl (lv_room (sum_cat (act_fm X) hw)) hd ⟨Nat.zero_le _, Nat.zero_le _⟩
    · exact va_runSN (As := as.map (cv A fm)) ⟨X.1, X.2.1, X.2.2.2.2.1, X.2.2.2.2.2.1, X.2.2.2.2.2.2.1⟩ (hC l G cA A fm H.size)
        ⟨va_cnB n X.2.2.2.2.2.2.1 (tb_gi (tb_ws mi.1)) rfl rfl rfl (X.2.2.2.2.2.2.2.2.2.2.2 _ lk) (X.2.2.2.2.2.2.1 _ mi.1.2.2.1) mi.1.1 (rmD_le mi.1), X.2.2.2.2.2.2.1 _ mi.2, trivial⟩ ⟨pc_blind, hpre⟩ rfl (by simpa using hn) hl.1 rfl (lv_room (sum_cat (act_fm X) hw)) hd ⟨Nat.zero_le _, Nat.zero_le _⟩
  · have h2 := kk r I' J' hq l G cA A fm p e s m args below meth c H1 locs1 ls X hP1 hS1 hl
    rw [map_ret] at h2
    exact h2
/-- a contract from the walk of a body -/
theorem call_of_wp {as : List Value} (hp : plainName K.1.cls = true) (hz : (lg_sl as).length ≤ K.2.2.1) (h : WP Ω d K 0 (lv_args 0 as) [] I J Q) : CALL Ω d K as I J Q := by
  intro l G cA A fm sz
  refine Met.ofW (cc := K.2.1) (maxL := K.2.2.1) (ret := K.2.2.2) hp rfl ?_
  intro p e s m args below meth c s₁ B hml hv
  obtain ⟨rfl, hsz, hP, hK, hA, hR, hN⟩ := hv
  have hts := atoms_spec (ws := wsK K) B.pre
  subst hsz
  have hf : fm.category = 1 := hR.2.2.2.2.2
  have hl := lv_entry (as.map (cv A fm)) (n := K.2.2.1) (by rw [lg_sl_len hf]; exact hz)
  rw [lg_entry_eq]
  generalize (lg_sl (as.map (cv A fm)) ++ List.replicate (K.2.2.1 - (lg_sl (as.map (cv A fm))).length) Slot.unset).toArray = ls at hl ⊢
  rw [lv_args_map hf] at hl
  exact h l G cA A fm p e s m _ below meth c s.heap [] ls ⟨B.exec, B.bytes, B.returns, B.notSynchronized, hml, findClass_of_methodNamed B.named, fun w hw => hts w (List.mem_cons_of_mem _ hw), hK, hA, hR, hN⟩ hP va_S.rf hl
end CLR
end
section
/-! rows on bits, shifts and unsigned numbers, to paste: each family out of a closed proof of our own, whole with what it rests on; each by itself clean at Lean in its own claim (generation 39, form 5). Take a family whole -/
/-! ===== Int32 by its bits: bt x i ===== -/
def bt (x : Int32) (i : Nat) : Bool := x.toBitVec.getLsbD i
theorem b_ext {x y : Int32} (h : ∀ i, i < 32 → bt x i = bt y i) : x = y := Int32.toBitVec_inj.mp (BitVec.eq_of_getLsbD_eq (fun i hi => h i hi))
theorem b_or (x y : Int32) (i : Nat) : bt (x ||| y) i = (bt x i || bt y i) := by unfold bt; rw [Int32.toBitVec_or, BitVec.getLsbD_or]
theorem b_and (x y : Int32) (i : Nat) : bt (x &&& y) i = (bt x i && bt y i) := by unfold bt; rw [Int32.toBitVec_and, BitVec.getLsbD_and]
theorem b_xor (x y : Int32) (i : Nat) : bt (x ^^^ y) i = (bt x i ^^ bt y i) := by unfold bt; rw [Int32.toBitVec_xor, BitVec.getLsbD_xor]
theorem b_big {x : Int32} {i : Nat} (h : 32 ≤ i) : bt x i = false := BitVec.getLsbD_of_ge _ _ h
theorem b_255 (i : Nat) : bt 255 i = decide (i < 8) := by
  rcases Nat.lt_or_ge i 32 with h | h
  · exact (by decide +kernel : ∀ i, i < 32 → bt 255 i = decide (i < 8)) i h
  · rw [b_big h, decide_eq_false (by omega)]
theorem b_65535 (i : Nat) : bt 65535 i = decide (i < 16) := by
  rcases Nat.lt_or_ge i 32 with h | h
  · exact (by decide +kernel : ∀ i, i < 32 → bt 65535 i = decide (i < 16)) i h
  · rw [b_big h, decide_eq_false (by omega)]
theorem b_m1 : ∀ i, i < 32 → bt (-1) i = true := by decide +kernel
theorem b_0 (i : Nat) : bt 0 i = false := BitVec.getLsbD_zero
theorem s_l : ∀ n, n < 32 → ((nI n &&& 31).toBitVec.smod 32).toNat = n := by decide +kernel
theorem s_u : ∀ n, n < 32 → (((nI n).toUInt32 &&& Int32.toUInt32 31).toBitVec % 32).toNat = n := by decide +kernel
theorem b_shl (n : Nat) (hn : n < 32) (x : Int32) {i : Nat} (hi : i < 32) : bt (x <<< (nI n &&& 31)) i = (decide (n ≤ i) && bt x (i - n)) := by
  unfold bt
  rw [Int32.toBitVec_shiftLeft]
  show (x.toBitVec <<< ((nI n &&& 31).toBitVec.smod 32).toNat).getLsbD i = _
  rw [s_l n hn, BitVec.getLsbD_shiftLeft]
  rcases Nat.lt_or_ge i n with h | h
  · simp [h, Nat.not_le.mpr h]
  · simp [hi, h, Nat.not_lt.mpr h]
theorem b_ushr (n : Nat) (hn : n < 32) (x : Int32) (i : Nat) : bt ((x.toUInt32 >>> ((nI n).toUInt32 &&& Int32.toUInt32 31)).toInt32) i = bt x (n + i) := by
  show (x.toUInt32 >>> ((nI n).toUInt32 &&& Int32.toUInt32 31)).toBitVec.getLsbD i = x.toUInt32.toBitVec.getLsbD (n + i)
  rw [UInt32.toBitVec_shiftRight]
  show (x.toUInt32.toBitVec >>> (((nI n).toUInt32 &&& Int32.toUInt32 31).toBitVec % 32).toNat).getLsbD i = _
  rw [s_u n hn, BitVec.getLsbD_ushiftRight]
theorem b_sshr (n : Nat) (hn : n < 32) (x : Int32) {i : Nat} (hi : i < 32) : bt (x >>> (nI n &&& 31)) i = if n + i < 32 then bt x (n + i) else bt x 31 := by
  unfold bt
  rw [Int32.toBitVec_shiftRight]
  show (x.toBitVec.sshiftRight ((nI n &&& 31).toBitVec.smod 32).toNat).getLsbD i = _
  rw [s_l n hn, BitVec.getLsbD_sshiftRight, BitVec.msb_eq_getLsbD_last]
  simp [hi]
theorem b_shl8 (x : Int32) {i : Nat} (hi : i < 32) : bt (x <<< ((8 : Int32) &&& 31)) i = (decide (8 ≤ i) && bt x (i - 8)) := b_shl 8 (by omega) x hi
theorem b_shl16 (x : Int32) {i : Nat} (hi : i < 32) : bt (x <<< ((16 : Int32) &&& 31)) i = (decide (16 ≤ i) && bt x (i - 16)) := b_shl 16 (by omega) x hi
theorem b_shl24 (x : Int32) {i : Nat} (hi : i < 32) : bt (x <<< ((24 : Int32) &&& 31)) i = (decide (24 ≤ i) && bt x (i - 24)) := b_shl 24 (by omega) x hi
theorem b_sshr8 (x : Int32) {i : Nat} (hi : i < 32) : bt (x >>> ((8 : Int32) &&& 31)) i = if 8 + i < 32 then bt x (8 + i) else bt x 31 := b_sshr 8 (by omega) x hi
/-! ===== nI under and, xor, >>>, one bit, 65535 ===== -/
theorem nx_and (a b : Nat) : nI a &&& nI b = nI (a &&& b) := by
  apply Int32.toBitVec_inj.1
  show BitVec.ofNat 32 a &&& BitVec.ofNat 32 b = BitVec.ofNat 32 (a &&& b)
  apply BitVec.eq_of_getLsbD_eq
  intro i hi
  simp [hi]
theorem nx_xor (a b : Nat) : nI a ^^^ nI b = nI (a ^^^ b) := by
  apply Int32.toBitVec_inj.1
  show BitVec.ofNat 32 a ^^^ BitVec.ofNat 32 b = BitVec.ofNat 32 (a ^^^ b)
  apply BitVec.eq_of_getLsbD_eq
  intro i hi
  simp [hi]
theorem nx_cnt : ∀ j : Fin 32, (UInt32.ofNat j.val &&& Int32.toUInt32 31).toNat % 32 = j.val := by decide +kernel
theorem nx_ush {k j : Nat} (hk : k < 65536) (hj : j < 32) : ((nI k).toUInt32 >>> ((nI j).toUInt32 &&& Int32.toUInt32 31)).toInt32 = nI (k >>> j) := by
  have hs : k >>> j ≤ k := by
    rw [Nat.shiftRight_eq_div_pow]
    exact Nat.div_le_self _ _
  have e2 : UInt32.ofNat k >>> (UInt32.ofNat j &&& Int32.toUInt32 31) = UInt32.ofNat (k >>> j) := by
    apply UInt32.toNat_inj.1
    have h1 : (UInt32.ofNat k).toNat = k := Nat.mod_eq_of_lt (by omega)
    have h2 : (UInt32.ofNat (k >>> j)).toNat = k >>> j := Nat.mod_eq_of_lt (by omega)
    rw [UInt32.toNat_shiftRight, nx_cnt ⟨j, hj⟩, h1, h2]
  show (UInt32.ofNat k >>> (UInt32.ofNat j &&& Int32.toUInt32 31)).toInt32 = _
  rw [e2]
  rfl
theorem nx_bit {k j : Nat} (hk : k < 65536) (hj : j < 16) : (((nI k).toUInt32 >>> ((nI j).toUInt32 &&& Int32.toUInt32 31)).toInt32 &&& 1) = 0 ↔ k.testBit j = false := by
  rw [nx_ush hk (by omega)]
  show nI (k >>> j) &&& nI 1 = 0 ↔ _
  rw [nx_and, Nat.and_one_is_mod, ← nI_0, nI_eq (by omega) (by omega), Nat.testBit_eq_decide_div_mod_eq, Nat.shiftRight_eq_div_pow, decide_eq_false_iff_not]
  generalize k / 2 ^ j = z
  omega
theorem nx_mod (k : Nat) : nI k &&& 65535 = nI (k % 65536) := by
  show nI k &&& nI 65535 = _
  rw [nx_and, show (65535 : Nat) = 2 ^ 16 - 1 from rfl, Nat.and_two_pow_sub_one_eq_mod]
theorem nx_m16 {k : Nat} (h : k < 65536) : nI k &&& 65535 = nI k := by rw [nx_mod, Nat.mod_eq_of_lt h]
theorem nx_mask (x : Int32) : ∃ k, k < 65536 ∧ x &&& 65535 = nI k := by
  have e : x = nI x.toBitVec.toNat := by
    apply Int32.toBitVec_inj.1
    show x.toBitVec = BitVec.ofNat 32 x.toBitVec.toNat
    simp
  refine ⟨x.toBitVec.toNat % 65536, Nat.mod_lt _ (by omega), ?_⟩
  rw [← nx_mod, ← e]
/-! ===== Int32 as a set of bits: test, set ===== -/
def nf_M (m : Int32) : Nat := 4294967296 - m.toBitVec.toNat
theorem nf_sh : ∀ l, l < 32 → ((1 : Int32) <<< (nI l &&& 31)).toBitVec = BitVec.twoPow 32 l := by decide +kernel
theorem nf_sl : ∀ l, l < 32 → (((nI l).toUInt32 &&& Int32.toUInt32 31).toBitVec % 32).toNat = l := by decide +kernel
theorem nf_tp : ∀ l, l < 32 → BitVec.twoPow 32 l ≠ 0#32 := by decide +kernel
theorem nf_bit (m : Int32) (l : Nat) (hl : l < 32) : ((m.toUInt32 >>> ((nI l).toUInt32 &&& Int32.toUInt32 31)).toInt32 &&& 1) = 0 ↔ (m &&& ((1 : Int32) <<< (nI l &&& 31))) = 0 := by
  have e : ((m.toUInt32 >>> ((nI l).toUInt32 &&& Int32.toUInt32 31)).toInt32).toBitVec = m.toBitVec >>> l := by
    show m.toBitVec >>> (((nI l).toUInt32 &&& Int32.toUInt32 31).toBitVec % 32) = m.toBitVec >>> l
    rw [BitVec.ushiftRight_eq', nf_sl l hl]
  rw [← Int32.toBitVec_inj, ← Int32.toBitVec_inj, Int32.toBitVec_and, Int32.toBitVec_and, nf_sh l hl, e, BitVec.and_twoPow]
  show (m.toBitVec >>> l &&& 1#32) = 0#32 ↔ _ = 0#32
  rw [BitVec.and_one_eq_setWidth_ofBool_getLsbD, BitVec.getLsbD_ushiftRight, Nat.add_zero]
  cases hb : m.toBitVec.getLsbD l
  · exact ⟨fun _ => by simp, fun _ => by decide⟩
  · exact ⟨fun z => absurd z (by decide), fun z => absurd ((if_pos rfl).symm.trans z) (nf_tp l hl)⟩
theorem nf_gr (m k : Int32) (h : m &&& k = 0) (hk : k ≠ 0) : nf_M (m ||| k) < nf_M m := by
  have hm := m.toBitVec.isLt
  have hm' := (m ||| k).toBitVec.isLt
  have h1 : m.toBitVec.toNat ≤ (m ||| k).toBitVec.toNat := by
    rw [Int32.toBitVec_or, BitVec.toNat_or]
    exact Nat.left_le_or
  have h2 : m.toBitVec.toNat ≠ (m ||| k).toBitVec.toNat := by
    intro e
    have e2 : m = m ||| k := Int32.toBitVec_inj.mp (BitVec.eq_of_toNat_eq e)
    apply hk
    apply Int32.toBitVec_inj.mp
    show k.toBitVec = 0#32
    apply BitVec.eq_of_getLsbD_eq
    intro i hi
    have a : m.toBitVec.getLsbD i = (m.toBitVec.getLsbD i || k.toBitVec.getLsbD i) := by rw [← BitVec.getLsbD_or, ← Int32.toBitVec_or, ← e2]
    have b : (m.toBitVec.getLsbD i && k.toBitVec.getLsbD i) = false := by
      rw [← BitVec.getLsbD_and, ← Int32.toBitVec_and, h]
      exact BitVec.getLsbD_zero
    rw [BitVec.getLsbD_zero]
    revert a b
    cases m.toBitVec.getLsbD i <;> cases k.toBitVec.getLsbD i <;> simp
  unfold nf_M
  omega
/-! ===== a byte read unsigned ===== -/
theorem bp_b (x : Int32) : x.toInt8.toInt32 &&& 255 = x &&& 255 := by
  apply Int32.toBitVec_inj.mp
  rw [Int32.toBitVec_and, Int32.toBitVec_and, Int8.toBitVec_toInt32, Int32.toBitVec_toInt8]
  apply BitVec.eq_of_getLsbD_eq
  intro i hi
  rw [BitVec.getLsbD_and, BitVec.getLsbD_and]
  have hm : ∀ i < 32, 8 ≤ i → (255 : Int32).toBitVec.getLsbD i = false := by decide
  rcases Nat.lt_or_ge i 8 with z | z
  · rw [BitVec.getLsbD_signExtend, BitVec.getLsbD_signExtend, if_pos z, if_pos hi]
    simp only [z, hi, decide_true, Bool.true_and]
  · rw [hm i hi z]; simp
/-! ===== the char cast and 65535 ===== -/
/-! ===== Int64 as a set of bits: test, set, clear ===== -/
theorem ts_nf {x : Bool} (h : ¬ x = false) : x = true := by cases x <;> first | rfl | exact absurd rfl h
theorem ts_nt {x : Bool} (h : ¬ x = true) : x = false := by cases x <;> first | rfl | exact absurd rfl h
theorem ts_bit {w : Int64} {s : UInt64} {j : Nat} (hj : j < 64) (hs : s.toNat = j) : ((w.toUInt64 >>> s).toInt64 &&& 1) = 0 ↔ w.toBitVec.getLsbD j = false := by
  have e : (w.toUInt64 >>> s).toInt64.toBitVec = w.toBitVec >>> j := by
    apply BitVec.eq_of_toNat_eq
    show (w.toUInt64 >>> s).toNat = _
    rw [UInt64.toNat_shiftRight, hs, Nat.mod_eq_of_lt hj, BitVec.toNat_ushiftRight]
    rfl
  rw [← Int64.toBitVec_inj, Int64.toBitVec_and, e]
  show w.toBitVec >>> j &&& 1#64 = 0#64 ↔ _
  constructor
  · intro h
    have t := congrArg (fun x => x.getLsbD 0) h
    simpa using t
  · intro h
    apply BitVec.eq_of_getLsbD_eq
    intro i hi
    cases i with
    | zero => simp [h]
    | succ i => simp
theorem ts_or {w m : Int64} {j : Nat} (hj : j < 64) (hm : m.toBitVec = BitVec.twoPow 64 j) : (w ||| m) = w ↔ w.toBitVec.getLsbD j = true := by
  rw [← Int64.toBitVec_inj, Int64.toBitVec_or, hm]
  constructor
  · intro h
    have t := congrArg (fun x => x.getLsbD j) h
    simp only [BitVec.getLsbD_or, BitVec.getLsbD_twoPow] at t
    simpa [hj] using t.symm
  · intro h
    apply BitVec.eq_of_getLsbD_eq
    intro i hi
    rw [BitVec.getLsbD_or, BitVec.getLsbD_twoPow]
    by_cases e : j = i
    · subst e; rw [h, Bool.true_or]
    · simp [e]
theorem ts_and {w m : Int64} {j : Nat} (hj : j < 64) (hm : m.toBitVec = BitVec.twoPow 64 j) : (w &&& (m ^^^ (-1))) = w ↔ w.toBitVec.getLsbD j = false := by
  have ha : (-1 : Int64).toBitVec = BitVec.allOnes 64 := by decide
  rw [← Int64.toBitVec_inj, Int64.toBitVec_and, Int64.toBitVec_xor, hm, ha]
  constructor
  · intro h
    have t := congrArg (fun x => x.getLsbD j) h
    simp only [BitVec.getLsbD_and, BitVec.getLsbD_xor, BitVec.getLsbD_twoPow, BitVec.getLsbD_allOnes] at t
    simpa [hj] using t.symm
  · intro h
    apply BitVec.eq_of_getLsbD_eq
    intro i hi
    rw [BitVec.getLsbD_and, BitVec.getLsbD_xor, BitVec.getLsbD_twoPow, BitVec.getLsbD_allOnes]
    by_cases e : j = i
    · subst e; rw [h, Bool.false_and]
    · simp [e, hi]
/-! ===== lN n to 2^64: shifts, and, or, masks, one bit ===== -/
theorem wb_tb (n : Nat) : (lN n).toBitVec = BitVec.ofNat 64 n := rfl
theorem wb_inj {a b : Int64} (h : a.toBitVec = b.toBitVec) : a = b := Int64.toBitVec_inj.mp h
theorem wb_tn {n : Nat} (h : n < 2 ^ 64) : (lN n).toBitVec.toNat = n := by rw [wb_tb, BitVec.toNat_ofNat, Nat.mod_eq_of_lt h]
theorem wb_of (x : Int64) : ∃ n, n < 2 ^ 64 ∧ x = lN n := ⟨x.toBitVec.toNat, x.toBitVec.isLt, wb_inj (by rw [wb_tb]; simp)⟩
theorem wb_of32 (x : Int32) : ∃ n, n < 2 ^ 32 ∧ x = nI n := ⟨x.toBitVec.toNat, x.toBitVec.isLt, Int32.toBitVec_inj.mp (by show _ = BitVec.ofNat 32 _; simp)⟩
theorem wb_c : ∀ k, k < 64 → ((nI k).toInt64 &&& 63) = lN k := by decide +kernel
theorem wb_cu : ∀ k, k < 64 → ((nI k).toInt64.toUInt64 &&& Int64.toUInt64 63) = UInt64.ofNat k := by decide +kernel
theorem wb_sm : ∀ k, k < 64 → (BitVec.ofNat 64 k).smod 64 = BitVec.ofNat 64 k := by decide +kernel
theorem wb_pw {a b : Nat} (h : a ≤ b) : 2 ^ b = 2 ^ a * 2 ^ (b - a) := by rw [← Nat.pow_add]; congr 1; omega
theorem wb_lt2 {a b : Nat} (h : a < b) : 2 ^ a < 2 ^ b := Nat.pow_lt_pow_right (by decide) h
theorem wb_mod (n : Nat) : lN n = lN (n % 2 ^ 64) := wb_inj (by rw [wb_tb, wb_tb]; apply BitVec.eq_of_toNat_eq; rw [BitVec.toNat_ofNat, BitVec.toNat_ofNat, Nat.mod_mod])
theorem wb_shr {n k : Nat} (hn : n < 2 ^ 64) (hk : k < 64) : ((lN n).toUInt64 >>> ((nI k).toInt64.toUInt64 &&& Int64.toUInt64 63)).toInt64 = lN (n / 2 ^ k) := by
  rw [wb_cu k hk]
  apply wb_inj
  apply BitVec.eq_of_toNat_eq
  show ((lN n).toUInt64 >>> UInt64.ofNat k).toNat = (BitVec.ofNat 64 _).toNat
  have h1 : (UInt64.ofNat k).toNat = k := by
    show (BitVec.ofNat 64 k).toNat = k
    rw [BitVec.toNat_ofNat, Nat.mod_eq_of_lt (by omega)]
  have h2 : (lN n).toUInt64.toNat = n := wb_tn hn
  rw [UInt64.toNat_shiftRight, h1, h2, Nat.mod_eq_of_lt hk, Nat.shiftRight_eq_div_pow, BitVec.toNat_ofNat, Nat.mod_eq_of_lt (Nat.lt_of_le_of_lt (Nat.div_le_self _ _) hn)]
theorem wb_shl (n : Nat) {k : Nat} (hk : k < 64) : lN n <<< ((nI k).toInt64 &&& 63) = lN (n * 2 ^ k) := by
  rw [wb_c k hk]
  apply wb_inj
  rw [Int64.toBitVec_shiftLeft, wb_tb, wb_tb, wb_tb, wb_sm k hk]
  apply BitVec.eq_of_toNat_eq
  rw [BitVec.shiftLeft_eq', BitVec.toNat_shiftLeft, BitVec.toNat_ofNat, BitVec.toNat_ofNat, BitVec.toNat_ofNat, Nat.mod_eq_of_lt (show k < 2 ^ 64 by omega), Nat.shiftLeft_eq, Nat.mul_mod, Nat.mod_mod, ← Nat.mul_mod]
theorem wb_and {a b : Nat} (ha : a < 2 ^ 64) (hb : b < 2 ^ 64) : lN a &&& lN b = lN (a &&& b) := by
  apply wb_inj
  rw [Int64.toBitVec_and, wb_tb, wb_tb, wb_tb]
  apply BitVec.eq_of_toNat_eq
  rw [BitVec.toNat_and, BitVec.toNat_ofNat, BitVec.toNat_ofNat, BitVec.toNat_ofNat, Nat.mod_eq_of_lt ha, Nat.mod_eq_of_lt hb, Nat.mod_eq_of_lt (Nat.and_lt_two_pow _ hb)]
theorem wb_or {a b : Nat} (ha : a < 2 ^ 64) (hb : b < 2 ^ 64) : lN a ||| lN b = lN (a ||| b) := by
  apply wb_inj
  rw [Int64.toBitVec_or, wb_tb, wb_tb, wb_tb]
  apply BitVec.eq_of_toNat_eq
  rw [BitVec.toNat_or, BitVec.toNat_ofNat, BitVec.toNat_ofNat, BitVec.toNat_ofNat, Nat.mod_eq_of_lt ha, Nat.mod_eq_of_lt hb, Nat.mod_eq_of_lt (Nat.or_lt_two_pow ha hb)]
theorem wb_mask {n k : Nat} (hn : n < 2 ^ 64) (hk : k < 64) : lN n &&& lN (2 ^ k - 1) = lN (n % 2 ^ k) := by
  rw [wb_and hn (by have := wb_lt2 hk; omega), Nat.and_two_pow_sub_one_eq_mod]
theorem wb_a1 {n : Nat} (hn : n < 2 ^ 64) : lN n &&& 1 = lN (n % 2) := wb_mask (k := 1) hn (by decide)
theorem wb_bit {n k : Nat} (hn : n < 2 ^ 64) (hk : k < 64) : ((lN n).toUInt64 >>> ((nI k).toInt64.toUInt64 &&& Int64.toUInt64 63)).toInt64 &&& 1 = lN (n / 2 ^ k % 2) := by
  rw [wb_shr hn hk, wb_a1 (Nat.lt_of_le_of_lt (Nat.div_le_self _ _) hn)]
theorem wb_xor {q k : Nat} (hk : k < 63) (h : 2 ^ k ≤ q) (h2 : q < 2 ^ (k + 1)) : lN q ^^^ lN (2 ^ k) = lN (q - 2 ^ k) := by
  obtain ⟨r, rfl⟩ : ∃ r, q = 2 ^ k + r := ⟨q - 2 ^ k, by omega⟩
  have hr : r < 2 ^ k := by rw [Nat.pow_succ] at h2; omega
  have hx : (2 ^ k + r) ^^^ 2 ^ k = r := by
    apply Nat.eq_of_testBit_eq
    intro i
    rw [Nat.testBit_xor, Nat.testBit_two_pow]
    rcases Nat.lt_trichotomy i k with h | h | h
    · rw [Nat.testBit_two_pow_add_gt h]
      simp [show ¬ k = i by omega]
    · subst h
      rw [Nat.testBit_two_pow_add_eq]
      simp
    · have a1 : 2 ^ (k + 1) ≤ 2 ^ i := Nat.pow_le_pow_right (by decide) h
      rw [Nat.testBit_lt_two_pow (show 2 ^ k + r < 2 ^ i by omega), Nat.testBit_lt_two_pow (show r < 2 ^ i by omega)]
      simp [show ¬ k = i by omega]
  have b1 := wb_lt2 (show k + 1 < 64 by omega)
  have b2 := wb_lt2 (show k < 64 by omega)
  apply wb_inj
  rw [Int64.toBitVec_xor, wb_tb, wb_tb, wb_tb]
  apply BitVec.eq_of_toNat_eq
  rw [BitVec.toNat_xor, BitVec.toNat_ofNat, BitVec.toNat_ofNat, BitVec.toNat_ofNat, Nat.mod_eq_of_lt (by omega : 2 ^ k + r < 2 ^ 64), Nat.mod_eq_of_lt b2, hx, Nat.add_sub_cancel_left, Nat.mod_eq_of_lt (by omega)]
/-! ===== lN: masks, 'or' of parts that don't overlap is a sum ===== -/
theorem u_tn {n : Nat} (h : n < 2 ^ 64) : (UInt64.ofNat n).toNat = n := Nat.mod_eq_of_lt h
theorem g_and {a b c : Nat} (ha : a < 2 ^ 64) (hb : b < 2 ^ 64) (hc : a &&& b = c) : lN a &&& lN b = lN c := by
  subst hc
  have h : UInt64.ofNat a &&& UInt64.ofNat b = UInt64.ofNat (a &&& b) := UInt64.toNat_inj.mp (by rw [UInt64.toNat_and, u_tn ha, u_tn hb, u_tn (Nat.and_lt_two_pow a hb)])
  have h2 := congrArg UInt64.toInt64 h
  exact h2
theorem g_and1 {a : Nat} (ha : a < 2 ^ 64) : lN a &&& 1 = lN (a % 2) := g_and (b := 1) ha (by decide) (Nat.and_two_pow_sub_one_eq_mod a 1)
theorem g_mask {a s p : Nat} (hp : 2 ^ s = p) (hs : s < 64) (ha : a < 2 ^ 64) : lN a &&& lN (p - 1) = lN (a % p) := by
  subst hp
  have := Nat.pow_lt_pow_right (show 1 < 2 by decide) hs
  exact g_and ha (by omega) (Nat.and_two_pow_sub_one_eq_mod a s)
theorem g_or {k p a b : Nat} (hp : 2 ^ k = p) (ha : a < p) (h : b * p + a < 2 ^ 64) : lN (b * p) ||| lN a = lN (b * p + a) := by
  subst hp
  have h1 : b * 2 ^ k ||| a = b * 2 ^ k + a := by rw [← Nat.shiftLeft_eq, Nat.shiftLeft_add_eq_or_of_lt ha]
  have h3 : UInt64.ofNat (b * 2 ^ k) ||| UInt64.ofNat a = UInt64.ofNat (b * 2 ^ k + a) := UInt64.toNat_inj.mp (by rw [UInt64.toNat_or, u_tn (by omega), u_tn (by omega), u_tn h, h1])
  have h2 := congrArg UInt64.toInt64 h3
  exact h2
theorem g_or' {k p a b : Nat} (hp : 2 ^ k = p) (ha : a < p) (h : a + b * p < 2 ^ 64) : lN a ||| lN (b * p) = lN (a + b * p) := by
  rw [Int64.or_comm, g_or hp ha (by omega), Nat.add_comm]
theorem g_ushr {a k p : Nat} {y : UInt64} (hy : y = UInt64.ofNat k) (hk : k < 64) (hp : 2 ^ k = p) (ha : a < 2 ^ 64) : ((lN a).toUInt64 >>> y).toInt64 = lN (a / p) := by
  subst hy hp
  have h : UInt64.ofNat a >>> UInt64.ofNat k = UInt64.ofNat (a / 2 ^ k) := UInt64.toNat_inj.mp (by rw [UInt64.toNat_shiftRight, u_tn ha, u_tn (by omega), u_tn (Nat.lt_of_le_of_lt (Nat.div_le_self _ _) ha), Nat.mod_eq_of_lt hk, Nat.shiftRight_eq_div_pow])
  have h2 := congrArg UInt64.toInt64 h
  exact h2
theorem g_shl {a k p : Nat} {y : Int64} (hy : y.toBitVec.smod 64 = BitVec.ofNat 64 k) (hk : k < 64) (hp : 2 ^ k = p) (ha : a < 2 ^ 64) : lN a <<< y = lN (a * p) := by
  subst hp
  apply Int64.toBitVec_inj.mp
  rw [Int64.toBitVec_shiftLeft, hy]
  apply BitVec.eq_of_toNat_eq
  have hb : (lN a).toBitVec.toNat = a := Nat.mod_eq_of_lt ha
  have hk' : (BitVec.ofNat 64 k).toNat = k := Nat.mod_eq_of_lt (by omega)
  have h : ((lN a).toBitVec <<< BitVec.ofNat 64 k).toNat = (a * 2 ^ k) % 2 ^ 64 := by simp only [BitVec.shiftLeft_eq', BitVec.toNat_shiftLeft, hb, hk', Nat.shiftLeft_eq]
  exact h
/-! ===== lN to 2^62 under >> and >>> ===== -/
theorem pf_lI {a : Nat} (h : a < 2 ^ 63) : (lN a).toInt = (a : Int) := lg_ofNat_toInt h
theorem pf_shr {a d : Nat} {D : Int64} (hD : (D.toBitVec.smod 64).toNat = d) (h : a < 2 ^ 62) : lN a >>> D = lN (a / 2 ^ d) := by
  have hd : a / 2 ^ d ≤ a := Nat.div_le_self _ _
  apply Int64.toInt_inj.mp
  have e : (lN a >>> D).toInt = (lN a).toInt >>> d := by
    rw [← hD]
    exact BitVec.toInt_sshiftRight ..
  rw [e, Int.shiftRight_eq_div_pow, pf_lI (by omega), pf_lI (by omega)]
  rfl
theorem pf_ushr {a d : Nat} {D : UInt64} (hD : D.toNat % 64 = d) (h : a < 2 ^ 62) : ((lN a).toUInt64 >>> D).toInt64 = lN (a / 2 ^ d) := by
  have hd : a / 2 ^ d ≤ a := Nat.div_le_self _ _
  have e : (lN a).toUInt64 >>> D = UInt64.ofNat (a / 2 ^ d) := UInt64.toNat_inj.mp (by
    rw [UInt64.toNat_shiftRight, hD, Nat.shiftRight_eq_div_pow, UInt64.toNat_ofNat']
    show (UInt64.ofNat a).toNat / 2 ^ d = _
    rw [UInt64.toNat_ofNat', Nat.mod_eq_of_lt (by omega), Nat.mod_eq_of_lt (by omega)])
  rw [e]
  rfl
theorem pf_andw (x : Int64) : ∃ m, m < 2 ^ 32 ∧ x &&& 4294967295 = lN m := ⟨x.toBitVec.toNat % 2 ^ 32, Nat.mod_lt _ (by decide), Int64.toBitVec_inj.mp (BitVec.eq_of_toNat_eq (by
  show (x.toBitVec &&& 4294967295#64).toNat = (BitVec.ofNat 64 (x.toBitVec.toNat % 2 ^ 32)).toNat
  rw [BitVec.toNat_and, show (4294967295#64).toNat = 2 ^ 32 - 1 from by decide, Nat.and_two_pow_sub_one_eq_mod, BitVec.toNat_ofNat]
  omega))⟩
/-! ===== Int64 as an unsigned number: uN x ===== -/
def uN (x : Int64) : Nat := x.toUInt64.toNat
theorem uN_lt (x : Int64) : uN x < 18446744073709551616 := x.toUInt64.toNat_lt
theorem uN_inj {x y : Int64} (h : uN x = uN y) : x = y := congrArg UInt64.toInt64 (UInt64.toNat_inj.mp h)
theorem uN_add (x y : Int64) : uN (x + y) = (uN x + uN y) % 18446744073709551616 := by
  show (x.toUInt64 + y.toUInt64).toNat = _
  exact UInt64.toNat_add _ _
theorem uN_mul (x y : Int64) : uN (x * y) = (uN x * uN y) % 18446744073709551616 := by
  show (x.toUInt64 * y.toUInt64).toNat = _
  exact UInt64.toNat_mul _ _
theorem uN_shl (x : Int64) : uN (x <<< ((1 : Int32).toInt64 &&& 63)) = (2 * uN x) % 18446744073709551616 := by
  have h : (((1 : Int32).toInt64 &&& 63).toBitVec.smod 64).toNat = 1 := by decide
  show (x.toBitVec <<< (((1 : Int32).toInt64 &&& 63).toBitVec.smod 64).toNat).toNat = _
  rw [h, BitVec.toNat_shiftLeft, Nat.shiftLeft_eq, Nat.mul_comm]
  rfl
theorem uN_shr (x : Int64) (s : UInt64) : uN (x.toUInt64 >>> s).toInt64 = uN x / 2 ^ (s.toNat % 64) := by
  show (x.toUInt64 >>> s).toNat = _
  rw [UInt64.toNat_shiftRight, Nat.shiftRight_eq_div_pow]
  rfl
theorem uN_s32 (x : Int64) : uN (x.toUInt64 >>> ((32 : Int32).toInt64.toUInt64 &&& Int64.toUInt64 63)).toInt64 = uN x / 4294967296 := by
  have h : ((32 : Int32).toInt64.toUInt64 &&& Int64.toUInt64 63).toNat % 64 = 32 := by decide
  rw [uN_shr, h]
theorem uN_s63 (x : Int64) : uN (x.toUInt64 >>> ((63 : Int32).toInt64.toUInt64 &&& Int64.toUInt64 63)).toInt64 = uN x / 9223372036854775808 := by
  have h : ((63 : Int32).toInt64.toUInt64 &&& Int64.toUInt64 63).toNat % 64 = 63 := by decide
  rw [uN_shr, h]
theorem uN_lo (x : Int64) : uN (x &&& 4294967295) = uN x % 4294967296 := by
  show (x.toUInt64 &&& Int64.toUInt64 4294967295).toNat = _
  rw [UInt64.toNat_and]
  exact Nat.and_two_pow_sub_one_eq_mod _ 32
theorem uN_bit (x : Int64) : (x &&& 1) = 0 ↔ uN x % 2 = 0 := by
  have h : uN (x &&& 1) = uN x % 2 := by
    show (x.toUInt64 &&& Int64.toUInt64 1).toNat = _
    rw [UInt64.toNat_and]
    exact Nat.and_two_pow_sub_one_eq_mod _ 1
  rw [← h]
  exact ⟨fun z => by rw [z]; rfl, fun z => uN_inj (z.trans rfl)⟩
theorem uN_or {x y : Int64} (hy : uN y < 2) : uN ((x <<< ((1 : Int32).toInt64 &&& 63)) ||| y) = (2 * uN x) % 18446744073709551616 + uN y := by
  have h1 : uN ((x <<< ((1 : Int32).toInt64 &&& 63)) ||| y) = uN (x <<< ((1 : Int32).toInt64 &&& 63)) ||| uN y := UInt64.toNat_or _ _
  have h2 : (2 * uN x) % 18446744073709551616 = 2 ^ 1 * (uN x % 9223372036854775808) := by omega
  rw [h1, uN_shl, h2]
  exact (Nat.two_pow_add_eq_or_of_lt (i := 1) hy _).symm
theorem nat_xor {a : Nat} (h : a < 18446744073709551616) : a ^^^ 2 ^ 63 = (a + 9223372036854775808) % 18446744073709551616 := by
  have h1 : (a ^^^ 2 ^ 63) % 2 ^ 63 = a % 2 ^ 63 := by rw [Nat.xor_mod_two_pow, Nat.mod_self, Nat.xor_zero]
  have h2 : (a ^^^ 2 ^ 63) / 2 ^ 63 = (a / 2 ^ 63) ^^^ 1 := by rw [Nat.xor_div_two_pow, Nat.div_self (Nat.two_pow_pos 63)]
  have h3 : a / 2 ^ 63 = 0 ∨ a / 2 ^ 63 = 1 := by omega
  generalize a ^^^ 2 ^ 63 = t at h1 h2
  rcases h3 with h3 | h3
  · rw [h3] at h2
    have h2 : t / 2 ^ 63 = 1 := h2
    omega
  · rw [h3] at h2
    have h2 : t / 2 ^ 63 = 0 := h2
    omega
theorem uN_xor (x : Int64) : uN (x ^^^ (-9223372036854775808)) = (uN x + 9223372036854775808) % 18446744073709551616 := by
  rw [← nat_xor (uN_lt x)]
  exact UInt64.toNat_xor _ _
theorem uN_int (x : Int64) : x.toInt = if 2 * uN x < 18446744073709551616 then (uN x : Int) else (uN x : Int) - 18446744073709551616 := BitVec.toInt_eq_toNat_cond _
theorem uN_le (x y : Int64) : (x ^^^ (-9223372036854775808)) ≤ (y ^^^ (-9223372036854775808)) ↔ uN x ≤ uN y := by
  have hx := uN_lt x
  have hy := uN_lt y
  rw [Int64.le_iff_toInt_le, uN_int, uN_int, uN_xor, uN_xor]
  omega
theorem uN_sk (x : Int64) {k : Nat} (hk : k < 64) : uN (x.toUInt64 >>> ((nI k).toInt64.toUInt64 &&& Int64.toUInt64 63)).toInt64 = uN x / 2 ^ k := by
  have h : ((nI k).toInt64.toUInt64 &&& Int64.toUInt64 63).toNat % 64 = k := by
    rw [nI_l (by omega), UInt64.toNat_and]
    have e : (lN k).toUInt64.toNat = k % 2 ^ 64 := rfl
    have e2 : (Int64.toUInt64 63).toNat = 2 ^ 6 - 1 := by decide
    rw [e, e2, Nat.and_two_pow_sub_one_eq_mod]
    omega
  rw [uN_shr, h]
/-! ===== unsigned comparison by xor with the least ===== -/
theorem lN_bv (n : Nat) : (lN n).toBitVec = BitVec.ofNat 64 n := rfl
theorem lN_nat {n : Nat} (h : n < 2 ^ 64) : (lN n).toBitVec.toNat = n := by rw [lN_bv, BitVec.toNat_ofNat]; exact Nat.mod_eq_of_lt h
theorem lN_xor (a b : Nat) : lN a ^^^ lN b = lN (a ^^^ b) := by
  apply Int64.toBitVec_inj.mp; rw [Int64.toBitVec_xor, lN_bv, lN_bv, lN_bv]; apply BitVec.eq_of_getLsbD_eq; intro i hi; simp [BitVec.getLsbD_ofNat, Nat.testBit_xor, hi]
theorem lN_ti {m : Nat} (h : m < 2 ^ 64) : (lN m).toInt = if m < 2 ^ 63 then (m : Int) else (m : Int) - 2 ^ 64 := by
  have c := BitVec.toInt_eq_toNat_cond (lN m).toBitVec
  rw [lN_nat h] at c
  show (lN m).toBitVec.toInt = _
  rw [c]
  split <;> split <;> omega
theorem xor63 {x : Nat} (h : x < 2 ^ 63) : x ^^^ 2 ^ 63 = 2 ^ 63 + x := by
  apply Nat.eq_of_testBit_eq
  intro i
  rw [Nat.testBit_xor, Nat.testBit_two_pow]
  rcases Nat.lt_trichotomy i 63 with z | z | z
  · rw [Nat.testBit_two_pow_add_gt z, decide_eq_false (by omega)]; simp
  · subst z; rw [Nat.testBit_two_pow_add_eq]; simp
  · have hp : 2 ^ 64 ≤ 2 ^ i := Nat.pow_le_pow_right (by decide) z
    rw [Nat.testBit_lt_two_pow (show x < 2 ^ i by omega), Nat.testBit_lt_two_pow (show 2 ^ 63 + x < 2 ^ i by omega), decide_eq_false (by omega)]; rfl
theorem xorS {a : Nat} (h : a < 2 ^ 64) : (lN a ^^^ (-9223372036854775808)).toInt = (a : Int) - 2 ^ 63 := by
  rw [show (-9223372036854775808 : Int64) = lN (2 ^ 63) from by decide +kernel, lN_xor]
  rcases Nat.lt_or_ge a (2 ^ 63) with z | z
  · rw [xor63 z, lN_ti (by omega), if_neg (by omega)]; omega
  · obtain ⟨x, rfl⟩ : ∃ x, a = 2 ^ 63 + x := ⟨a - 2 ^ 63, by omega⟩
    rw [← xor63 (by omega), Nat.xor_assoc, Nat.xor_self, Nat.xor_zero, lN_ti (by omega), if_pos (by omega), xor63 (by omega)]; omega
theorem ultL {a b : Nat} (ha : a < 2 ^ 64) (hb : b < 2 ^ 64) : ((lN b ^^^ (-9223372036854775808)) ≤ (lN a ^^^ (-9223372036854775808))) ↔ b ≤ a := by
  rw [Int64.le_iff_toInt_le, xorS ha, xorS hb]; omega
/-! ===== Int64 masks of n low bits ===== -/
theorem cr_bits (W U M : BitVec 64) : ((W &&& U) &&& (U &&& (M ^^^ BitVec.allOnes 64))) = 0#64 ↔ (W &&& U) &&& M = W &&& U := by
  constructor
  · intro h
    apply BitVec.eq_of_getLsbD_eq
    intro i hi
    have e := congrArg (fun x => BitVec.getLsbD x i) h
    simp only [BitVec.getLsbD_and, BitVec.getLsbD_xor, BitVec.getLsbD_allOnes, BitVec.getLsbD_zero, hi, decide_true] at e ⊢
    revert e
    cases W.getLsbD i <;> cases U.getLsbD i <;> cases M.getLsbD i <;> decide
  · intro h
    apply BitVec.eq_of_getLsbD_eq
    intro i hi
    have e := congrArg (fun x => BitVec.getLsbD x i) h
    simp only [BitVec.getLsbD_and, BitVec.getLsbD_xor, BitVec.getLsbD_allOnes, BitVec.getLsbD_zero, hi, decide_true] at e ⊢
    revert e
    cases W.getLsbD i <;> cases U.getLsbD i <;> cases M.getLsbD i <;> decide
theorem cr_mask (w U m : Int64) (n : Nat) (hm : m.toBitVec.toNat = 2 ^ n - 1) : ((w &&& U) &&& (U &&& (m ^^^ (-1)))) = 0 ↔ (w &&& U).toBitVec.toNat < 2 ^ n := by
  have e0 : (-1 : Int64).toBitVec = BitVec.allOnes 64 := by decide
  have z0 : (0 : Int64).toBitVec = 0#64 := by decide
  rw [← Int64.toBitVec_inj, z0, Int64.toBitVec_and, Int64.toBitVec_and, Int64.toBitVec_and, Int64.toBitVec_xor, e0, cr_bits]
  generalize w.toBitVec &&& U.toBitVec = T
  rw [← BitVec.toNat_inj, BitVec.toNat_and, hm, Nat.and_two_pow_sub_one_eq_mod]
  constructor
  · intro h
    have t := Nat.mod_lt T.toNat (Nat.two_pow_pos n)
    rw [h] at t
    exact t
  · exact Nat.mod_eq_of_lt
theorem cr_shr (t : Int64) (x : UInt64) (n : Nat) (hx : x.toNat % 64 = n) : (t.toUInt64 >>> x).toInt64 = 0 ↔ t.toBitVec.toNat < 2 ^ n := by
  rw [← Int64.toBitVec_inj, ← BitVec.toNat_inj]
  show (t.toUInt64 >>> x).toNat = 0 ↔ t.toUInt64.toNat < 2 ^ n
  rw [UInt64.toNat_shiftRight, hx, Nat.shiftRight_eq_div_pow]
  constructor
  · intro h
    have d : t.toUInt64.toNat / 2 ^ n < 1 := by
      rw [h]
      decide
    have e := (Nat.div_lt_iff_lt_mul (Nat.two_pow_pos n)).mp d
    rw [Nat.one_mul] at e
    exact e
  · exact Nat.div_eq_of_lt
theorem cr_amt (s : Int64) : ∃ n, n < 64 ∧ s &&& 63 = lN n ∧ (s.toUInt64 &&& Int64.toUInt64 63).toNat % 64 = n := by
  have e : (s.toUInt64 &&& Int64.toUInt64 63).toNat = s.toUInt64.toNat % 2 ^ 6 := by
    rw [UInt64.toNat_and, show (Int64.toUInt64 63).toNat = 2 ^ 6 - 1 from by decide, Nat.and_two_pow_sub_one_eq_mod]
  refine ⟨s.toUInt64.toNat % 2 ^ 6, by omega, ?_, by omega⟩
  rw [← Int64.toBitVec_inj, ← BitVec.toNat_inj]
  show (s.toUInt64 &&& Int64.toUInt64 63).toNat = (BitVec.ofNat 64 (s.toUInt64.toNat % 2 ^ 6)).toNat
  rw [e, BitVec.toNat_ofNat]
  omega
/-! plain facts on numbers and arrays, to paste: each family by itself; over the kit's rows on nI and upd -/
/-! ===== order of ints, in all its forms, and through longs ===== -/
theorem fa_lt (a b : Int32) : a < b ↔ a.toInt < b.toInt := Int32.lt_iff_toInt_lt
theorem fa_le (a b : Int32) : a ≤ b ↔ a.toInt ≤ b.toInt := Int32.le_iff_toInt_le
theorem fa_eq (a b : Int32) : a = b ↔ a.toInt = b.toInt := Int32.toInt_inj.symm
theorem fa_lt64 (a b : Int64) : a < b ↔ a.toInt < b.toInt := Int64.lt_iff_toInt_lt
theorem fa_le64 (a b : Int64) : a ≤ b ↔ a.toInt ≤ b.toInt := Int64.le_iff_toInt_le
theorem fa_eq64 (a b : Int64) : a = b ↔ a.toInt = b.toInt := Int64.toInt_inj.symm
/-- a comparison of two ints taken as longs -/
theorem fa_wide_lt (a b : Int32) : a.toInt64 < b.toInt64 ↔ a < b := by rw [fa_lt64, fa_lt, Int32.toInt_toInt64, Int32.toInt_toInt64]
theorem fa_wide_le (a b : Int32) : a.toInt64 ≤ b.toInt64 ↔ a ≤ b := by rw [fa_le64, fa_le, Int32.toInt_toInt64, Int32.toInt_toInt64]
theorem fa_wide_eq (a b : Int32) : a.toInt64 = b.toInt64 ↔ a = b := by rw [fa_eq64, fa_eq, Int32.toInt_toInt64, Int32.toInt_toInt64]
/-- one strict comparison gives all the others -/
theorem fa_of_lt {a b : Int32} (h : a < b) : a ≤ b ∧ ¬ b ≤ a ∧ ¬ b < a ∧ a ≠ b ∧ b ≠ a := by
  rw [fa_lt] at h
  refine ⟨?_, ?_, ?_, ?_, ?_⟩
  · rw [fa_le]; omega
  · rw [fa_le]; omega
  · rw [fa_lt]; omega
  · intro e; rw [fa_eq] at e; omega
  · intro e; rw [fa_eq] at e; omega
theorem fa_of_nlt {a b : Int32} (h : ¬ a < b) : b ≤ a := by
  rw [fa_lt] at h
  rw [fa_le]
  omega
theorem fa_of_nle {a b : Int32} (h : ¬ a ≤ b) : b < a := by
  rw [fa_le] at h
  rw [fa_lt]
  omega
theorem fa_le_ne {a b : Int32} (h : a ≤ b) (h2 : a ≠ b) : a < b := by
  rw [fa_le] at h
  rw [fa_lt]
  have h3 : a.toInt ≠ b.toInt := fun e => h2 ((fa_eq a b).mpr e)
  omega
theorem fa_three (a b : Int32) : a < b ∨ a = b ∨ b < a := by
  rw [fa_lt, fa_lt, fa_eq]
  omega
theorem fa_trans {a b c : Int32} (h : a < b) (h2 : b ≤ c) : a < c := by
  rw [fa_lt] at *
  rw [fa_le] at h2
  omega
/-! ===== small literals as numbers ===== -/
theorem fa_lit (n : Nat) : (OfNat.ofNat n : Int32) = nI n := rfl
theorem fa_litL (n : Nat) : (OfNat.ofNat n : Int64) = lN n := rfl
/-! ===== bits of a number: 'or', masks, one bit ===== -/
theorem fa_and (a b : Nat) : nI a &&& nI b = nI (a &&& b) := by
  apply Int32.toBitVec_inj.1
  show BitVec.ofNat 32 a &&& BitVec.ofNat 32 b = BitVec.ofNat 32 (a &&& b)
  apply BitVec.eq_of_getLsbD_eq
  intro i hi
  simp [hi]
theorem fa_or (a b : Nat) : nI a ||| nI b = nI (a ||| b) := by
  apply Int32.toBitVec_inj.1
  show BitVec.ofNat 32 a ||| BitVec.ofNat 32 b = BitVec.ofNat 32 (a ||| b)
  apply BitVec.eq_of_getLsbD_eq
  intro i hi
  simp [hi]
/-- a remainder by a power of two, as a mask -/
theorem fa_mask (n k : Nat) : nI n &&& nI (2 ^ k - 1) = nI (n % 2 ^ k) := by rw [fa_and, Nat.and_two_pow_sub_one_eq_mod]
/-- 'or' of a high part and a low one that don't meet is their sum -/
theorem fa_or_sum {a k : Nat} (b : Nat) (h : a < 2 ^ k) : nI (2 ^ k * b) ||| nI a = nI (2 ^ k * b + a) := by rw [fa_or, Nat.two_pow_add_eq_or_of_lt h]
/-- one bit, by 'and' with a power of two -/
theorem fa_bit {n j : Nat} (hj : j < 31) : nI n &&& nI (2 ^ j) = 0 ↔ n.testBit j = false := by
  have h2 : (2 : Nat) ^ j < 2 ^ 31 := Nat.pow_lt_pow_right (by decide) hj
  have hle : n &&& 2 ^ j ≤ 2 ^ j := Nat.and_le_right
  have e : n &&& 2 ^ j = 0 ↔ n.testBit j = false := by
    constructor
    · intro h
      have h1 : (n &&& 2 ^ j).testBit j = false := by rw [h]; simp
      rw [Nat.testBit_and] at h1
      first | simpa using h1 | simpa [Nat.testBit_two_pow_self] using h1 | simpa [Nat.testBit_two_pow] using h1
    · intro h
      apply Nat.eq_of_testBit_eq
      intro i
      rw [Nat.testBit_and]
      by_cases hi : j = i
      · subst hi; simp [h]
      · first | (simp [Nat.testBit_two_pow, hi]; done) | (simp [Nat.testBit_two_pow_of_ne hi]; done)
  rw [fa_and]
  constructor
  · intro h
    apply e.mp
    rcases Nat.eq_zero_or_pos (n &&& 2 ^ j) with z | z
    · exact z
    · exact absurd h (nI_ne0 z (Nat.lt_of_le_of_lt hle h2))
  · intro h
    rw [e.mpr h]; exact nI_0
/-- a remainder by a power of two of a number that isn't negative, as Java divides -/
theorem fa_rem {a k : Nat} (ha : a < 2 ^ 31) (hk : k < 31) : nI a - nI a / nI (2 ^ k) * nI (2 ^ k) = nI (a % 2 ^ k) := pk_rem ha (Nat.two_pow_pos k) (Nat.pow_lt_pow_right (by decide) hk)
/-! ===== cuts to a byte, a short ===== -/
theorem fa_byte_xor (x y : Int32) : (x ^^^ y).toInt8 = x.toInt8 ^^^ y.toInt8 := by
  apply Int8.toBitVec_inj.1
  apply BitVec.eq_of_getLsbD_eq
  intro i hi
  first | (simp [hi]; done) | (simp [hi, BitVec.getLsbD_setWidth, BitVec.getLsbD_signExtend]; done)
theorem fa_short_xor (x y : Int32) : (x ^^^ y).toInt16 = x.toInt16 ^^^ y.toInt16 := by
  apply Int16.toBitVec_inj.1
  apply BitVec.eq_of_getLsbD_eq
  intro i hi
  first | (simp [hi]; done) | (simp [hi, BitVec.getLsbD_setWidth, BitVec.getLsbD_signExtend]; done)
/-- the cut to a byte sees the low byte alone -/
theorem fa_byte_low (x : Int32) : (x &&& 255).toInt8 = x.toInt8 := by
  apply Int8.toBitVec_inj.1
  apply BitVec.eq_of_getLsbD_eq
  intro i hi
  have h2 : (255 : Int32).toBitVec.getLsbD i = true := by
    have : ∀ j : Fin 8, (255 : Int32).toBitVec.getLsbD j.val = true := by decide +kernel
    exact this ⟨i, hi⟩
  have h4 : (x &&& 255).toBitVec.getLsbD i = x.toBitVec.getLsbD i := by
    show (x.toBitVec &&& (255 : Int32).toBitVec).getLsbD i = _
    rw [BitVec.getLsbD_and, h2, Bool.and_true]
  have h3 : i < 32 := by omega
  first
    | (show (((x &&& 255).toBitVec).signExtend 8).getLsbD i = (x.toBitVec.signExtend 8).getLsbD i; rw [BitVec.getLsbD_signExtend, BitVec.getLsbD_signExtend, if_pos h3, if_pos h3, h4])
    | (show (((x &&& 255).toBitVec).setWidth 8).getLsbD i = (x.toBitVec.setWidth 8).getLsbD i; rw [BitVec.getLsbD_setWidth, BitVec.getLsbD_setWidth, h4])
    | (simp [hi, h3, h4]; done)
theorem fa_short_low (x : Int32) : (x &&& 65535).toInt16 = x.toInt16 := by
  apply Int16.toBitVec_inj.1
  apply BitVec.eq_of_getLsbD_eq
  intro i hi
  have h2 : (65535 : Int32).toBitVec.getLsbD i = true := by
    have : ∀ j : Fin 16, (65535 : Int32).toBitVec.getLsbD j.val = true := by decide +kernel
    exact this ⟨i, hi⟩
  have h4 : (x &&& 65535).toBitVec.getLsbD i = x.toBitVec.getLsbD i := by
    show (x.toBitVec &&& (65535 : Int32).toBitVec).getLsbD i = _
    rw [BitVec.getLsbD_and, h2, Bool.and_true]
  have h3 : i < 32 := by omega
  first
    | (show (((x &&& 65535).toBitVec).signExtend 16).getLsbD i = (x.toBitVec.signExtend 16).getLsbD i; rw [BitVec.getLsbD_signExtend, BitVec.getLsbD_signExtend, if_pos h3, if_pos h3, h4])
    | (show (((x &&& 65535).toBitVec).setWidth 16).getLsbD i = (x.toBitVec.setWidth 16).getLsbD i; rw [BitVec.getLsbD_setWidth, BitVec.getLsbD_setWidth, h4])
    | (simp [hi, h3, h4]; done)
/-- a small number is its own byte, its own short -/
theorem fa_byte_small {n : Nat} (h : n < 128) : (nI n).toInt8.toInt32 = nI n := by
  have : ∀ j : Fin 128, (nI j.val).toInt8.toInt32 = nI j.val := by decide +kernel
  exact this ⟨n, h⟩
/-! ===== absolute difference ===== -/
theorem fa_absdiff {a b : Nat} (ha : a < 2 ^ 31) (hb : b < 2 ^ 31) : (if nI a < nI b then nI b - nI a else nI a - nI b) = nI (if a < b then b - a else a - b) := by
  by_cases h : a < b
  · rw [if_pos (nI_lt h hb), if_pos h]
    exact pk_sub (Nat.le_of_lt h)
  · rw [if_neg (nI_nlt (Nat.le_of_not_lt h) ha), if_neg h]
    exact pk_sub (Nat.le_of_not_lt h)
/-! ===== an array behind i stores, a conditional store, a row copied ===== -/
/-- f where k < i, what stood there else -/
def fa_fill {α : Type} (f g : Nat → α) (i : Nat) : Nat → α := fun k => if k < i then f k else g k
theorem fa_fill_0 {α : Type} (f g : Nat → α) : fa_fill f g 0 = g := funext fun k => if_neg (Nat.not_lt_zero k)
theorem fa_fill_in {α : Type} {f g : Nat → α} {i k : Nat} (h : k < i) : fa_fill f g i k = f k := if_pos h
theorem fa_fill_out {α : Type} {f g : Nat → α} {i k : Nat} (h : i ≤ k) : fa_fill f g i k = g k := if_neg (Nat.not_lt.mpr h)
theorem fa_fill_succ (f g : Nat → Int32) (i : Nat) : upd (fa_fill f g i) i (f i) = fa_fill f g (i + 1) := by
  funext k
  by_cases e : k = i
  · subst e
    rw [pk_us]
    exact (if_pos (Nat.lt_succ_self k)).symm
  · rw [pk_un e]
    by_cases h : k < i
    · rw [fa_fill_in h, fa_fill_in (Nat.lt_succ_of_lt h)]
    · rw [fa_fill_out (Nat.le_of_not_lt h), fa_fill_out (by omega)]
/-- a store that changes nothing -/
theorem fa_upd_same {f : Nat → Int32} {i : Nat} {x : Int32} (h : f i = x) : upd f i x = f := by
  funext k
  by_cases e : k = i
  · subst e
    rw [pk_us, h]
  · rw [pk_un e]
/-- a store under a condition, told as one -/
theorem fa_upd_if (c : Prop) [Decidable c] (f : Nat → Int32) (i : Nat) (x : Int32) : (if c then upd f i x else f) = upd f i (if c then x else f i) := by
  by_cases h : c
  · rw [if_pos h, if_pos h]
  · rw [if_neg h, if_neg h, fa_upd_same rfl]
/-- two stores at one place, at two -/
theorem fa_upd_twice (f : Nat → Int32) (i : Nat) (x y : Int32) : upd (upd f i x) i y = upd f i y := by
  funext k
  by_cases e : k = i
  · subst e
    rw [pk_us, pk_us]
  · rw [pk_un e, pk_un e, pk_un e]
theorem fa_upd_swap (f : Nat → Int32) {i j : Nat} (h : i ≠ j) (x y : Int32) : upd (upd f i x) j y = upd (upd f j y) i x := by
  funext k
  by_cases e : k = i
  · subst e
    rw [pk_un h, pk_us, pk_us]
  · by_cases e2 : k = j
    · subst e2
      rw [pk_us, pk_un e, pk_us]
    · rw [pk_un e2, pk_un e, pk_un e, pk_un e2]
/-! ===== the first index with a property; a count ===== -/
/-- the first k < n with p k, n if there is none -/
def fa_first (p : Nat → Bool) : Nat → Nat
  | 0 => 0
  | n + 1 => if fa_first p n < n then fa_first p n else if p n then n else n + 1
theorem fa_first_le (p : Nat → Bool) : ∀ n, fa_first p n ≤ n
  | 0 => Nat.le_refl 0
  | n + 1 => by
    have ih := fa_first_le p n
    unfold fa_first
    split
    · omega
    · split
      · omega
      · omega
theorem fa_first_no (p : Nat → Bool) : ∀ n k, k < fa_first p n → p k = false
  | 0, k, h => absurd h (Nat.not_lt_zero k)
  | n + 1, k, h => by
    have ih := fa_first_no p n
    have hl := fa_first_le p n
    unfold fa_first at h
    split at h
    · exact ih k h
    · rename_i h1
      split at h
      · exact ih k (by omega)
      · rename_i h2
        by_cases e : k = n
        · subst e
          exact Bool.eq_false_iff.mpr h2
        · exact ih k (by omega)
theorem fa_first_yes (p : Nat → Bool) : ∀ n, fa_first p n < n → p (fa_first p n) = true
  | 0, h => absurd h (Nat.not_lt_zero _)
  | n + 1, h => by
    have ih := fa_first_yes p n
    have hl := fa_first_le p n
    unfold fa_first at h ⊢
    split at h
    · rename_i h1
      rw [if_pos h1]
      exact ih h1
    · rename_i h1
      rw [if_neg h1]
      split at h
      · rename_i h2
        rw [if_pos h2]
        exact h2
      · omega
/-- how many k < n have p k -/
def fa_cnt (p : Nat → Bool) : Nat → Nat
  | 0 => 0
  | n + 1 => fa_cnt p n + if p n then 1 else 0
theorem fa_cnt_le (p : Nat → Bool) : ∀ n, fa_cnt p n ≤ n
  | 0 => Nat.le_refl 0
  | n + 1 => by
    have ih := fa_cnt_le p n
    unfold fa_cnt
    split
    · omega
    · omega
theorem fa_cnt_yes {p : Nat → Bool} {n : Nat} (h : p n = true) : fa_cnt p (n + 1) = fa_cnt p n + 1 := by rw [fa_cnt, if_pos h]
theorem fa_cnt_no {p : Nat → Bool} {n : Nat} (h : p n = false) : fa_cnt p (n + 1) = fa_cnt p n := by rw [fa_cnt, if_neg (by rw [h]; decide)]; rfl
theorem fa_cnt_cong {p q : Nat → Bool} : ∀ {n : Nat}, (∀ k, k < n → p k = q k) → fa_cnt p n = fa_cnt q n
  | 0, _ => rfl
  | n + 1, h => by rw [fa_cnt, fa_cnt, fa_cnt_cong (fun k hk => h k (Nat.lt_succ_of_lt hk)), h n (Nat.lt_succ_self n)]
/-! ===== an answer carried into a post; a branch on a boolean answer ===== -/
theorem fa_post {α : Type} {P : α → Prop} {x y : α} (h : x = y) (hp : P y) : P x := h ▸ hp
theorem fa_post2 {α β : Type} {P : α → β → Prop} {x y : α} {u v : β} (h : x = y) (h2 : u = v) (hp : P y v) : P x u := h ▸ h2 ▸ hp
theorem fa_bool {r : Int32} {b : Bool} (h : r = if b then 1 else 0) : (r = 0 ↔ b = false) ∧ (¬ r = 0 ↔ b = true) := by
  subst h
  cases b
  · exact ⟨⟨fun _ => rfl, fun _ => rfl⟩, ⟨fun h => absurd rfl h, fun h => absurd h (by decide)⟩⟩
  · exact ⟨⟨fun h => absurd h (by decide), fun h => absurd h (by decide)⟩, ⟨fun _ => rfl, fun _ => by decide⟩⟩
/-- a boolean's narrowing changes nothing -/
theorem fa_bool_and {r : Int32} (h : r = 0 ∨ r = 1) : r &&& 1 = r := by
  rcases h with rfl | rfl
  · decide
  · decide
theorem fa_bool_prop {c : Prop} [Decidable c] {r : Int32} (h : r = if c then 1 else 0) : (r = 0 ↔ ¬ c) ∧ (¬ r = 0 ↔ c) := by
  subst h
  by_cases hc : c
  · rw [if_pos hc]
    exact ⟨⟨fun h => absurd h (by decide), fun h => absurd hc h⟩, ⟨fun _ => hc, fun _ => by decide⟩⟩
  · rw [if_neg hc]
    exact ⟨⟨fun _ => hc, fun _ => rfl⟩, ⟨fun h => absurd rfl h, fun h => absurd h hc⟩⟩
/-! plain facts to paste, each family by itself; over the kit's nI, lN and upd -/
/-! ===== drawers: more things than places ===== -/
theorem fb_holes : ∀ (m n : Nat) (f : Nat → Nat), (∀ i, i < n → f i < m) → (∀ i j, i < j → j < n → f i ≠ f j) → n ≤ m := by
  intro m
  induction m with
  | zero =>
    intro n f h1 _
    rcases Nat.eq_zero_or_pos n with h | h
    · omega
    · exact absurd (h1 0 h) (Nat.not_lt_zero _)
  | succ m ih =>
    intro n f h1 h2
    by_cases hx : ∃ i, i < n ∧ f i = m
    · obtain ⟨a, ha, hfa⟩ := hx
      have hg := ih (n - 1) (fun i => if i < a then f i else f (i + 1)) (by
        intro i hi
        by_cases q : i < a
        · simp only [if_pos q]
          have b1 := h1 i (by omega)
          have b2 := h2 i a q ha
          omega
        · simp only [if_neg q]
          have b1 := h1 (i + 1) (by omega)
          have b2 := h2 a (i + 1) (by omega) (by omega)
          omega) (by
        intro i j hij hj
        by_cases q : i < a
        · by_cases r : j < a
          · simp only [if_pos q, if_pos r]
            exact h2 i j hij (by omega)
          · simp only [if_pos q, if_neg r]
            exact h2 i (j + 1) (by omega) (by omega)
        · have r : ¬ j < a := by omega
          simp only [if_neg q, if_neg r]
          exact h2 (i + 1) (j + 1) (by omega) (by omega))
      omega
    · have hg := ih n f (fun i hi => by
        have b1 := h1 i hi
        have b2 : f i ≠ m := fun e => hx ⟨i, hi, e⟩
        omega) h2
      omega
/-- two of them in one place -/
theorem fb_twice {m n : Nat} {f : Nat → Nat} (h : ∀ i, i < n → f i < m) (hm : m < n) : ∃ i j, i < j ∧ j < n ∧ f i = f j := by
  refine Classical.byContradiction fun hx => ?_
  have := fb_holes m n f h (fun i j hij hj e => hx ⟨i, j, hij, hj, e⟩)
  omega
/-- as many as places, none twice: each place is taken -/
theorem fb_onto {n : Nat} {f : Nat → Nat} (h : ∀ i, i < n → f i < n) (h2 : ∀ i j, i < j → j < n → f i ≠ f j) {y : Nat} (hy : y < n) : ∃ i, i < n ∧ f i = y := by
  refine Classical.byContradiction fun hx => ?_
  have hne : ∀ i, i < n → f i ≠ y := fun i hi e => hx ⟨i, hi, e⟩
  have := fb_holes (n - 1) n (fun i => if f i < y then f i else f i - 1) (by
    intro i hi
    have b1 := h i hi
    have b2 := hne i hi
    by_cases q : f i < y
    · simp only [if_pos q]; omega
    · simp only [if_neg q]; omega) (by
    intro i j hij hj
    have b1 := hne i (by omega)
    have b2 := hne j hj
    have b3 := h2 i j hij hj
    by_cases q : f i < y
    · by_cases r : f j < y
      · simp only [if_pos q, if_pos r]; exact b3
      · simp only [if_pos q, if_neg r]; omega
    · by_cases r : f j < y
      · simp only [if_neg q, if_pos r]; omega
      · simp only [if_neg q, if_neg r]; omega)
  omega
/-! ===== how many places have a property ===== -/
def fb_ct (p : Nat → Bool) : Nat → Nat
  | 0 => 0
  | n + 1 => fb_ct p n + (if p n then 1 else 0)
theorem fb_ct_succ (p : Nat → Bool) (n : Nat) : fb_ct p (n + 1) = fb_ct p n + (if p n then 1 else 0) := rfl
theorem fb_ct_le (p : Nat → Bool) : ∀ n, fb_ct p n ≤ n
  | 0 => Nat.le_refl _
  | n + 1 => by
    have h := fb_ct_le p n
    rw [fb_ct_succ]
    split <;> omega
theorem fb_ct_step (p : Nat → Bool) (m : Nat) : ∀ n, fb_ct p m ≤ fb_ct p (m + n)
  | 0 => Nat.le_refl _
  | n + 1 => by
    have h := fb_ct_step p m n
    show fb_ct p m ≤ fb_ct p (m + n + 1)
    rw [fb_ct_succ]
    omega
theorem fb_ct_mono (p : Nat → Bool) {m n : Nat} (h : m ≤ n) : fb_ct p m ≤ fb_ct p n := by
  have := fb_ct_step p m (n - m)
  rwa [Nat.add_sub_cancel' h] at this
theorem fb_ct_cong {p q : Nat → Bool} : ∀ {n : Nat}, (∀ k, k < n → p k = q k) → fb_ct p n = fb_ct q n
  | 0, _ => rfl
  | n + 1, h => by
    rw [fb_ct_succ, fb_ct_succ, fb_ct_cong (fun k hk => h k (by omega)), h n (by omega)]
/-- one place changed -/
theorem fb_ct_out (p : Nat → Bool) (b : Bool) {i n : Nat} (h : n ≤ i) : fb_ct (fun k => if k = i then b else p k) n = fb_ct p n :=
  fb_ct_cong fun k hk => if_neg (by omega)
theorem fb_ct_upd (p : Nat → Bool) (b : Bool) {i : Nat} : ∀ {n : Nat}, i < n → fb_ct (fun k => if k = i then b else p k) n + (if p i then 1 else 0) = fb_ct p n + (if b then 1 else 0)
  | 0, h => absurd h (Nat.not_lt_zero i)
  | n + 1, h => by
    rw [fb_ct_succ, fb_ct_succ]
    rcases Nat.lt_or_ge i n with q | q
    · have := fb_ct_upd p b q
      have e : (if n = i then b else p n) = p n := if_neg (by omega)
      rw [e]
      omega
    · have e : i = n := by omega
      subst e
      rw [fb_ct_out p b (Nat.le_refl _)]
      simp only [if_true]
      omega
theorem fb_ct_sub {p q : Nat → Bool} : ∀ {n : Nat}, (∀ k, k < n → p k = true → q k = true) → fb_ct p n ≤ fb_ct q n
  | 0, _ => Nat.le_refl _
  | n + 1, h => by
    have h1 := fb_ct_sub (n := n) (p := p) (q := q) (fun k hk => h k (by omega))
    have h2 := h n (by omega)
    rw [fb_ct_succ, fb_ct_succ]
    cases hp : p n <;> cases hq : q n <;> simp_all <;> omega
theorem fb_ct_or {p q : Nat → Bool} : ∀ {n : Nat}, (∀ k, k < n → ¬ (p k = true ∧ q k = true)) → fb_ct (fun k => p k || q k) n = fb_ct p n + fb_ct q n
  | 0, _ => rfl
  | n + 1, h => by
    have h1 := fb_ct_or (n := n) (p := p) (q := q) (fun k hk => h k (by omega))
    have h2 := h n (by omega)
    rw [fb_ct_succ, fb_ct_succ, fb_ct_succ, h1]
    cases hp : p n <;> cases hq : q n <;> simp_all <;> omega
theorem fb_ct_not (p : Nat → Bool) : ∀ n, fb_ct p n + fb_ct (fun k => !p k) n = n
  | 0 => rfl
  | n + 1 => by
    have h := fb_ct_not p n
    rw [fb_ct_succ, fb_ct_succ]
    cases p n <;> simp <;> omega
theorem fb_ct_split (p : Nat → Bool) (m : Nat) : ∀ n, fb_ct p (m + n) = fb_ct p m + fb_ct (fun k => p (m + k)) n
  | 0 => rfl
  | n + 1 => by
    have h := fb_ct_split p m n
    show fb_ct p (m + n + 1) = _
    rw [fb_ct_succ, fb_ct_succ, h, Nat.add_assoc]
theorem fb_ct_zero {p : Nat → Bool} : ∀ {n : Nat}, fb_ct p n = 0 ↔ ∀ k, k < n → p k = false
  | 0 => ⟨fun _ k hk => absurd hk (Nat.not_lt_zero k), fun _ => rfl⟩
  | n + 1 => by
    have h := fb_ct_zero (p := p) (n := n)
    rw [fb_ct_succ]
    constructor
    · intro e k hk
      have e1 : fb_ct p n = 0 := by omega
      rcases Nat.lt_or_ge k n with q | q
      · exact h.mp e1 k q
      · have ek : k = n := by omega
        subst ek
        cases hp : p k
        · rfl
        · simp [hp] at e
    · intro a
      rw [h.mpr (fun k hk => a k (by omega)), a n (by omega)]
      rfl
theorem fb_ct_pos {p : Nat → Bool} {n : Nat} : 0 < fb_ct p n ↔ ∃ k, k < n ∧ p k = true := by
  constructor
  · intro h
    refine Classical.byContradiction fun hx => ?_
    have := fb_ct_zero.mpr (fun k hk => by
      cases hp : p k
      · rfl
      · exact absurd ⟨k, hk, hp⟩ hx : ∀ k, k < n → p k = false)
    omega
  · rintro ⟨k, hk, hp⟩
    rcases Nat.eq_zero_or_pos (fb_ct p n) with e | e
    · have := fb_ct_zero.mp e k hk
      rw [this] at hp
      cases hp
    · exact e
theorem fb_ct_all {p : Nat → Bool} {n : Nat} : fb_ct p n = n ↔ ∀ k, k < n → p k = true := by
  have h := fb_ct_not p n
  constructor
  · intro e k hk
    have z : fb_ct (fun k => !p k) n = 0 := by omega
    have := fb_ct_zero.mp z k hk
    cases hp : p k
    · simp [hp] at this
    · rfl
  · intro a
    have z : fb_ct (fun k => !p k) n = 0 := fb_ct_zero.mpr (fun k hk => by simp [a k hk])
    omega
/-- the k-th place with the property -/
theorem fb_ct_kth {p : Nat → Bool} {k : Nat} : ∀ {n : Nat}, k < fb_ct p n → ∃ i, i < n ∧ p i = true ∧ fb_ct p i = k
  | 0, h => absurd h (Nat.not_lt_zero k)
  | n + 1, h => by
    rcases Nat.lt_or_ge k (fb_ct p n) with q | q
    · obtain ⟨i, h1, h2⟩ := fb_ct_kth q
      exact ⟨i, by omega, h2⟩
    · rw [fb_ct_succ] at h
      cases hp : p n
      · simp [hp] at h; omega
      · simp [hp] at h
        exact ⟨n, by omega, hp, by omega⟩
theorem fb_ct_kth_one {p : Nat → Bool} {i j : Nat} (hi : p i = true) (hj : p j = true) (e : fb_ct p i = fb_ct p j) : i = j := by
  have key : ∀ a b : Nat, a < b → p a = true → fb_ct p a < fb_ct p b := by
    intro a b hab ha
    have h := fb_ct_mono p (show a + 1 ≤ b from hab)
    rw [fb_ct_succ, ha] at h
    simp at h
    omega
  rcases Nat.lt_trichotomy i j with q | q | q
  · have := key i j q hi; omega
  · exact q
  · have := key j i q hj; omega
/-! ===== sums over a range: one place changed, parts, bounds ===== -/
def fb_sm (f : Nat → Nat) : Nat → Nat
  | 0 => 0
  | n + 1 => fb_sm f n + f n
theorem fb_sm_succ (f : Nat → Nat) (n : Nat) : fb_sm f (n + 1) = fb_sm f n + f n := rfl
theorem fb_sm_cong {f g : Nat → Nat} : ∀ {n : Nat}, (∀ k, k < n → f k = g k) → fb_sm f n = fb_sm g n
  | 0, _ => rfl
  | n + 1, h => by rw [fb_sm_succ, fb_sm_succ, fb_sm_cong (fun k hk => h k (by omega)), h n (by omega)]
theorem fb_sm_out (f : Nat → Nat) (v : Nat) {i n : Nat} (h : n ≤ i) : fb_sm (fun k => if k = i then v else f k) n = fb_sm f n :=
  fb_sm_cong fun k hk => if_neg (by omega)
theorem fb_sm_upd (f : Nat → Nat) (v : Nat) {i : Nat} : ∀ {n : Nat}, i < n → fb_sm (fun k => if k = i then v else f k) n + f i = fb_sm f n + v
  | 0, h => absurd h (Nat.not_lt_zero i)
  | n + 1, h => by
    rw [fb_sm_succ, fb_sm_succ]
    rcases Nat.lt_or_ge i n with q | q
    · have := fb_sm_upd f v q
      have e : (if n = i then v else f n) = f n := if_neg (by omega)
      rw [e]
      omega
    · have e : i = n := by omega
      subst e
      rw [fb_sm_out f v (Nat.le_refl _)]
      simp only [if_true]
      omega
theorem fb_sm_add (f g : Nat → Nat) : ∀ n, fb_sm (fun k => f k + g k) n = fb_sm f n + fb_sm g n
  | 0 => rfl
  | n + 1 => by
    have h := fb_sm_add f g n
    rw [fb_sm_succ, fb_sm_succ, fb_sm_succ, h]
    omega
theorem fb_sm_le {f g : Nat → Nat} : ∀ {n : Nat}, (∀ k, k < n → f k ≤ g k) → fb_sm f n ≤ fb_sm g n
  | 0, _ => Nat.le_refl _
  | n + 1, h => by
    have h1 := fb_sm_le (n := n) (f := f) (g := g) (fun k hk => h k (by omega))
    have h2 := h n (by omega)
    rw [fb_sm_succ, fb_sm_succ]
    omega
theorem fb_sm_const (c : Nat) : ∀ n, fb_sm (fun _ => c) n = n * c
  | 0 => by rw [Nat.zero_mul]; rfl
  | n + 1 => by rw [fb_sm_succ, fb_sm_const c n, Nat.succ_mul]
theorem fb_sm_bound {f : Nat → Nat} {c n : Nat} (h : ∀ k, k < n → f k ≤ c) : fb_sm f n ≤ n * c := by
  rw [← fb_sm_const c n]
  exact fb_sm_le h
theorem fb_sm_mono (f : Nat → Nat) (m : Nat) : ∀ n, fb_sm f m ≤ fb_sm f (m + n)
  | 0 => Nat.le_refl _
  | n + 1 => by
    have h := fb_sm_mono f m n
    show fb_sm f m ≤ fb_sm f (m + n + 1)
    rw [fb_sm_succ]
    omega
theorem fb_sm_part (f : Nat → Nat) {i n : Nat} (h : i < n) : fb_sm f i + f i ≤ fb_sm f n := by
  have := fb_sm_mono f (i + 1) (n - (i + 1))
  rw [fb_sm_succ, show i + 1 + (n - (i + 1)) = n by omega] at this
  exact this
theorem fb_sm_split (f : Nat → Nat) (m : Nat) : ∀ n, fb_sm f (m + n) = fb_sm f m + fb_sm (fun k => f (m + k)) n
  | 0 => rfl
  | n + 1 => by
    have h := fb_sm_split f m n
    show fb_sm f (m + n + 1) = _
    rw [fb_sm_succ, fb_sm_succ, h, Nat.add_assoc]
theorem fb_sm_zero {f : Nat → Nat} {n : Nat} (h : fb_sm f n = 0) : ∀ k, k < n → f k = 0 := fun k hk => by
  have := fb_sm_part f hk
  omega
/-- the same over whole numbers -/
def fb_si (f : Nat → Int) : Nat → Int
  | 0 => 0
  | n + 1 => fb_si f n + f n
theorem fb_si_succ (f : Nat → Int) (n : Nat) : fb_si f (n + 1) = fb_si f n + f n := rfl
theorem fb_si_cong {f g : Nat → Int} : ∀ {n : Nat}, (∀ k, k < n → f k = g k) → fb_si f n = fb_si g n
  | 0, _ => rfl
  | n + 1, h => by rw [fb_si_succ, fb_si_succ, fb_si_cong (fun k hk => h k (by omega)), h n (by omega)]
theorem fb_si_out (f : Nat → Int) (v : Int) {i n : Nat} (h : n ≤ i) : fb_si (fun k => if k = i then v else f k) n = fb_si f n :=
  fb_si_cong fun k hk => if_neg (by omega)
theorem fb_si_upd (f : Nat → Int) (v : Int) {i : Nat} : ∀ {n : Nat}, i < n → fb_si (fun k => if k = i then v else f k) n = fb_si f n - f i + v
  | 0, h => absurd h (Nat.not_lt_zero i)
  | n + 1, h => by
    rw [fb_si_succ, fb_si_succ]
    rcases Nat.lt_or_ge i n with q | q
    · have := fb_si_upd f v q
      have e : (if n = i then v else f n) = f n := if_neg (by omega)
      rw [e]
      omega
    · have e : i = n := by omega
      subst e
      rw [fb_si_out f v (Nat.le_refl _)]
      simp only [if_true]
      omega
theorem fb_si_add (f g : Nat → Int) : ∀ n, fb_si (fun k => f k + g k) n = fb_si f n + fb_si g n
  | 0 => rfl
  | n + 1 => by
    have h := fb_si_add f g n
    rw [fb_si_succ, fb_si_succ, fb_si_succ, h]
    omega
theorem fb_si_sub (f g : Nat → Int) : ∀ n, fb_si (fun k => f k - g k) n = fb_si f n - fb_si g n
  | 0 => rfl
  | n + 1 => by
    have h := fb_si_sub f g n
    rw [fb_si_succ, fb_si_succ, fb_si_succ, h]
    omega
theorem fb_si_mul (c : Int) (f : Nat → Int) : ∀ n, fb_si (fun k => c * f k) n = c * fb_si f n
  | 0 => (Int.mul_zero c).symm
  | n + 1 => by
    have h := fb_si_mul c f n
    rw [fb_si_succ, fb_si_succ, h, Int.mul_add]
theorem fb_si_split (f : Nat → Int) (m : Nat) : ∀ n, fb_si f (m + n) = fb_si f m + fb_si (fun k => f (m + k)) n
  | 0 => (Int.add_zero _).symm
  | n + 1 => by
    have h := fb_si_split f m n
    show fb_si f (m + n + 1) = _
    rw [fb_si_succ, fb_si_succ, h, Int.add_assoc]
theorem fb_si_nat (f : Nat → Nat) : ∀ n, fb_si (fun k => (f k : Int)) n = (fb_sm f n : Int)
  | 0 => rfl
  | n + 1 => by
    have h := fb_si_nat f n
    rw [fb_si_succ, fb_sm_succ, h]
    omega
theorem fb_si_bound {f : Nat → Int} {c : Int} (hc : 0 ≤ c) : ∀ {n : Nat}, (∀ k, k < n → -c ≤ f k ∧ f k ≤ c) → -(n * c) ≤ fb_si f n ∧ fb_si f n ≤ n * c
  | 0, _ => by simp [fb_si]
  | n + 1, h => by
    have h1 := fb_si_bound (n := n) (f := f) hc (fun k hk => h k (by omega))
    have h2 := h n (by omega)
    have e : ((n + 1 : Nat) : Int) * c = n * c + c := by rw [Int.natCast_add, Int.add_mul]; simp
    rw [fb_si_succ, e]
    omega
/-! ===== bits of a long that isn't negative ===== -/
theorem fb_andL (a b : Nat) : lN a &&& lN b = lN (a &&& b) := by
  apply Int64.toBitVec_inj.1
  show BitVec.ofNat 64 a &&& BitVec.ofNat 64 b = BitVec.ofNat 64 (a &&& b)
  apply BitVec.eq_of_getLsbD_eq
  intro i hi
  simp [hi]
theorem fb_orL (a b : Nat) : lN a ||| lN b = lN (a ||| b) := by
  apply Int64.toBitVec_inj.1
  show BitVec.ofNat 64 a ||| BitVec.ofNat 64 b = BitVec.ofNat 64 (a ||| b)
  apply BitVec.eq_of_getLsbD_eq
  intro i hi
  simp [hi]
theorem fb_xorL (a b : Nat) : lN a ^^^ lN b = lN (a ^^^ b) := by
  apply Int64.toBitVec_inj.1
  show BitVec.ofNat 64 a ^^^ BitVec.ofNat 64 b = BitVec.ofNat 64 (a ^^^ b)
  apply BitVec.eq_of_getLsbD_eq
  intro i hi
  simp [hi]
theorem fb_xorI (a b : Nat) : nI a ^^^ nI b = nI (a ^^^ b) := by
  apply Int32.toBitVec_inj.1
  show BitVec.ofNat 32 a ^^^ BitVec.ofNat 32 b = BitVec.ofNat 32 (a ^^^ b)
  apply BitVec.eq_of_getLsbD_eq
  intro i hi
  simp [hi]
theorem fb_maskL (n k : Nat) : lN n &&& lN (2 ^ k - 1) = lN (n % 2 ^ k) := by rw [fb_andL, Nat.and_two_pow_sub_one_eq_mod]
theorem fb_or_sumL {a k : Nat} (b : Nat) (h : a < 2 ^ k) : lN (2 ^ k * b) ||| lN a = lN (2 ^ k * b + a) := by rw [fb_orL, Nat.two_pow_add_eq_or_of_lt h]
theorem fb_lN_inj {a b : Nat} (ha : a < 2 ^ 63) (hb : b < 2 ^ 63) : lN a = lN b ↔ a = b := by
  constructor
  · intro h
    have h1 : (BitVec.ofNat 64 a).toNat = (BitVec.ofNat 64 b).toNat := congrArg (fun x : Int64 => x.toBitVec.toNat) h
    rw [BitVec.toNat_ofNat, BitVec.toNat_ofNat, Nat.mod_eq_of_lt (by omega), Nat.mod_eq_of_lt (by omega)] at h1
    exact h1
  · rintro rfl; rfl
theorem fb_bit_nat (n j : Nat) : n &&& 2 ^ j = 0 ↔ n.testBit j = false := by
  constructor
  · intro h
    have h1 : (n &&& 2 ^ j).testBit j = false := by rw [h]; simp
    rw [Nat.testBit_and] at h1
    simpa using h1
  · intro h
    apply Nat.eq_of_testBit_eq
    intro i
    rw [Nat.testBit_and]
    by_cases hi : j = i
    · subst hi; simp [h]
    · first | (simp [Nat.testBit_two_pow, hi]; done) | (simp [Nat.testBit_two_pow_of_ne hi]; done)
/-- one bit of a long -/
theorem fb_bitL {n j : Nat} (hj : j < 63) : lN n &&& lN (2 ^ j) = 0 ↔ n.testBit j = false := by
  have h2 : (2 : Nat) ^ j < 2 ^ 63 := Nat.pow_lt_pow_right (by decide) hj
  have hle : n &&& 2 ^ j ≤ 2 ^ j := Nat.and_le_right
  rw [fb_andL, ← fb_bit_nat, show (0 : Int64) = lN 0 from rfl]
  exact fb_lN_inj (by omega) (by decide)
/-- a bit set, a bit taken off -/
theorem fb_bit_set (n j i : Nat) : (n ||| 2 ^ j).testBit i = (n.testBit i || decide (i = j)) := by
  rw [Nat.testBit_or]
  by_cases h : j = i
  · subst h; simp
  · have h2 : ¬ i = j := fun e => h e.symm
    first | (simp [Nat.testBit_two_pow, h, h2]; done) | (simp [Nat.testBit_two_pow_of_ne h, h2]; done)
theorem fb_bit_flip (n j i : Nat) : (n ^^^ 2 ^ j).testBit i = (n.testBit i ^^ decide (i = j)) := by
  rw [Nat.testBit_xor]
  by_cases h : j = i
  · subst h; simp
  · have h2 : ¬ i = j := fun e => h e.symm
    first | (simp [Nat.testBit_two_pow, h, h2]; done) | (simp [Nat.testBit_two_pow_of_ne h, h2]; done)
/-! ===== a stretch of an array written over by a function ===== -/
def fb_put {α : Type} (f g : Nat → α) (a n : Nat) : Nat → α := fun k => if a ≤ k ∧ k < a + n then g (k - a) else f k
theorem fb_put_0 {α : Type} (f g : Nat → α) (a : Nat) : fb_put f g a 0 = f := funext fun k => if_neg (by omega)
theorem fb_put_in {α : Type} {f g : Nat → α} {a n k : Nat} (h1 : a ≤ k) (h2 : k < a + n) : fb_put f g a n k = g (k - a) := if_pos ⟨h1, h2⟩
theorem fb_put_out {α : Type} {f g : Nat → α} {a n k : Nat} (h : k < a ∨ a + n ≤ k) : fb_put f g a n k = f k := if_neg (by omega)
theorem fb_put_succ (f g : Nat → Int32) (a n : Nat) : upd (fb_put f g a n) (a + n) (g n) = fb_put f g a (n + 1) := by
  funext k
  by_cases h : k = a + n
  · subst h
    simp [upd, fb_put]
  · by_cases h1 : a ≤ k ∧ k < a + n
    · have h2 : a ≤ k ∧ k < a + (n + 1) := by omega
      simp only [upd, fb_put, if_neg h, if_pos h1, if_pos h2]
    · have h2 : ¬ (a ≤ k ∧ k < a + (n + 1)) := by omega
      simp only [upd, fb_put, if_neg h, if_neg h1, if_neg h2]
/-- .. from the far end down -/
theorem fb_put_down (f g : Nat → Int32) {a n m : Nat} (h : m < n) : upd (fb_put f (fun k => g (k + (m + 1))) (a + (m + 1)) (n - (m + 1))) (a + m) (g m) = fb_put f (fun k => g (k + m)) (a + m) (n - m) := by
  funext k
  by_cases h0 : k = a + m
  · subst h0
    simp only [upd, if_true]
    rw [fb_put_in (by omega) (by omega)]
    exact congrArg g (by omega)
  · simp only [upd, if_neg h0]
    by_cases h1 : a + (m + 1) ≤ k ∧ k < a + (m + 1) + (n - (m + 1))
    · rw [fb_put_in h1.1 h1.2, fb_put_in (by omega) (by omega)]
      exact congrArg g (by omega)
    · rw [fb_put_out (by omega), fb_put_out (by omega)]
theorem fb_put_cong {α : Type} {f f2 g g2 : Nat → α} {a n : Nat} (hf : ∀ k, (k < a ∨ a + n ≤ k) → f k = f2 k) (hg : ∀ k, k < n → g k = g2 k) : fb_put f g a n = fb_put f2 g2 a n := by
  funext k
  by_cases h : a ≤ k ∧ k < a + n
  · rw [fb_put_in h.1 h.2, fb_put_in h.1 h.2, hg _ (by omega)]
  · rw [fb_put_out (by omega), fb_put_out (by omega), hf _ (by omega)]
/-! ===== the least, the first, the best so far; that there is one alone ===== -/
theorem fb_first {p : Nat → Prop} [DecidablePred p] : ∀ {n : Nat}, (∃ i, i < n ∧ p i) → ∃ i, i < n ∧ p i ∧ ∀ j, j < i → ¬ p j
  | 0, h => by obtain ⟨i, hi, -⟩ := h; exact absurd hi (Nat.not_lt_zero i)
  | n + 1, h => by
    by_cases q : ∃ i, i < n ∧ p i
    · obtain ⟨i, h1, h2⟩ := fb_first q
      exact ⟨i, by omega, h2⟩
    · obtain ⟨i, h1, h2⟩ := h
      have e : i = n := by
        rcases Nat.lt_or_ge i n with r | r
        · exact absurd ⟨i, r, h2⟩ q
        · omega
      subst e
      exact ⟨i, by omega, h2, fun j hj hp => q ⟨j, hj, hp⟩⟩
theorem fb_first_one {p : Nat → Prop} {i j : Nat} (hi : p i) (hi2 : ∀ k, k < i → ¬ p k) (hj : p j) (hj2 : ∀ k, k < j → ¬ p k) : i = j := by
  rcases Nat.lt_trichotomy i j with q | q | q
  · exact absurd hi (hj2 i q)
  · exact q
  · exact absurd hj (hi2 j q)
theorem fb_last {p : Nat → Prop} [DecidablePred p] : ∀ {n : Nat}, (∃ i, i < n ∧ p i) → ∃ i, i < n ∧ p i ∧ ∀ j, i < j → j < n → ¬ p j
  | 0, h => by obtain ⟨i, hi, -⟩ := h; exact absurd hi (Nat.not_lt_zero i)
  | n + 1, h => by
    by_cases q : p n
    · exact ⟨n, by omega, q, fun j h1 h2 => by omega⟩
    · obtain ⟨i, h1, h2⟩ := h
      have hi : i < n := by
        rcases Nat.lt_or_ge i n with r | r
        · exact r
        · have e : i = n := by omega
          subst e
          exact absurd h2 q
      obtain ⟨i2, a1, a2, a3⟩ := fb_last (n := n) ⟨i, hi, h2⟩
      refine ⟨i2, by omega, a2, fun j b1 b2 => ?_⟩
      rcases Nat.lt_or_ge j n with r | r
      · exact a3 j b1 r
      · have e : j = n := by omega
        subst e
        exact q
/-- the first greatest -/
theorem fb_best (f : Nat → Int) : ∀ {n : Nat}, 0 < n → ∃ i, i < n ∧ (∀ j, j < n → f j ≤ f i) ∧ ∀ j, j < i → f j < f i
  | 0, h => absurd h (Nat.lt_irrefl 0)
  | 1, _ => ⟨0, by omega, fun j hj => by have e : j = 0 := by omega
                                         subst e; exact Int.le_refl _, fun j hj => absurd hj (Nat.not_lt_zero j)⟩
  | n + 2, _ => by
    obtain ⟨i, h1, h2, h3⟩ := fb_best f (n := n + 1) (by omega)
    by_cases q : f i < f (n + 1)
    · refine ⟨n + 1, by omega, fun j hj => ?_, fun j hj => ?_⟩
      · rcases Nat.lt_or_ge j (n + 1) with r | r
        · have := h2 j r; omega
        · have e : j = n + 1 := by omega
          subst e; exact Int.le_refl _
      · have := h2 j hj; omega
    · refine ⟨i, by omega, fun j hj => ?_, h3⟩
      rcases Nat.lt_or_ge j (n + 1) with r | r
      · exact h2 j r
      · have e : j = n + 1 := by omega
        subst e; omega
theorem fb_best_one {f : Nat → Int} {n i j : Nat} (hi : i < n) (hi2 : ∀ k, k < n → f k ≤ f i) (hi3 : ∀ k, k < i → f k < f i) (hj : j < n) (hj2 : ∀ k, k < n → f k ≤ f j) (hj3 : ∀ k, k < j → f k < f j) : i = j := by
  rcases Nat.lt_trichotomy i j with q | q | q
  · have a := hj3 i q
    have b := hi2 j hj
    omega
  · exact q
  · have a := hi3 j q
    have b := hj2 i hi
    omega
/-- the first least -/
theorem fb_low (f : Nat → Int) {n : Nat} (h : 0 < n) : ∃ i, i < n ∧ (∀ j, j < n → f i ≤ f j) ∧ ∀ j, j < i → f i < f j := by
  obtain ⟨i, h1, h2, h3⟩ := fb_best (fun k => -f k) h
  exact ⟨i, h1, fun j hj => by have := h2 j hj; omega, fun j hj => by have := h3 j hj; omega⟩
/-! ===== signed ints as whole numbers, within bounds ===== -/
theorem fb_rng (x : Int32) : -2147483648 ≤ x.toInt ∧ x.toInt < 2147483648 := by
  have h1 := Int32.le_toInt x
  have h2 := Int32.toInt_lt x
  omega
theorem fb_bmod {z : Int} (h1 : -2147483648 ≤ z) (h2 : z < 2147483648) : z.bmod (2 ^ 32) = z := by
  rw [Int.bmod_eq_of_le (by omega) (by omega)]
theorem fb_addI {x y : Int32} (h1 : -2147483648 ≤ x.toInt + y.toInt) (h2 : x.toInt + y.toInt < 2147483648) : (x + y).toInt = x.toInt + y.toInt := by
  rw [Int32.toInt_add, fb_bmod h1 h2]
theorem fb_subI {x y : Int32} (h1 : -2147483648 ≤ x.toInt - y.toInt) (h2 : x.toInt - y.toInt < 2147483648) : (x - y).toInt = x.toInt - y.toInt := by
  rw [Int32.toInt_sub, fb_bmod h1 h2]
theorem fb_mulI {x y : Int32} (h1 : -2147483648 ≤ x.toInt * y.toInt) (h2 : x.toInt * y.toInt < 2147483648) : (x * y).toInt = x.toInt * y.toInt := by
  rw [Int32.toInt_mul, fb_bmod h1 h2]
theorem fb_negI {x : Int32} (h : x.toInt ≠ -2147483648) : (-x).toInt = -x.toInt := by
  have := fb_rng x
  rw [Int32.toInt_neg, fb_bmod (by omega) (by omega)]
theorem fb_ofI {z : Int} (h1 : -2147483648 ≤ z) (h2 : z < 2147483648) : (Int32.ofInt z).toInt = z := by
  rw [Int32.toInt_ofInt, fb_bmod h1 h2]
theorem fb_asI (x : Int32) : Int32.ofInt x.toInt = x := Int32.ofInt_toInt x
theorem fb_rngL (x : Int64) : -9223372036854775808 ≤ x.toInt ∧ x.toInt < 9223372036854775808 := by
  have h1 := Int64.le_toInt x
  have h2 := Int64.toInt_lt x
  omega
theorem fb_bmodL {z : Int} (h1 : -9223372036854775808 ≤ z) (h2 : z < 9223372036854775808) : z.bmod (2 ^ 64) = z := by
  rw [Int.bmod_eq_of_le (by omega) (by omega)]
theorem fb_addL {x y : Int64} (h1 : -9223372036854775808 ≤ x.toInt + y.toInt) (h2 : x.toInt + y.toInt < 9223372036854775808) : (x + y).toInt = x.toInt + y.toInt := by
  rw [Int64.toInt_add, fb_bmodL h1 h2]
theorem fb_subL {x y : Int64} (h1 : -9223372036854775808 ≤ x.toInt - y.toInt) (h2 : x.toInt - y.toInt < 9223372036854775808) : (x - y).toInt = x.toInt - y.toInt := by
  rw [Int64.toInt_sub, fb_bmodL h1 h2]
theorem fb_mulL {x y : Int64} (h1 : -9223372036854775808 ≤ x.toInt * y.toInt) (h2 : x.toInt * y.toInt < 9223372036854775808) : (x * y).toInt = x.toInt * y.toInt := by
  rw [Int64.toInt_mul, fb_bmodL h1 h2]
/-! ===== cuts of what is narrow already ===== -/
theorem fb_byte {x : Int32} (h1 : -128 ≤ x.toInt) (h2 : x.toInt < 128) : x.toInt8.toInt32 = x := by
  apply Int32.toInt_inj.1
  rw [Int8.toInt_toInt32, Int32.toInt_toInt8, Int.bmod_eq_of_le (by omega) (by omega)]
theorem fb_short {x : Int32} (h1 : -32768 ≤ x.toInt) (h2 : x.toInt < 32768) : x.toInt16.toInt32 = x := by
  apply Int32.toInt_inj.1
  rw [Int16.toInt_toInt32, Int32.toInt_toInt16, Int.bmod_eq_of_le (by omega) (by omega)]
theorem fb_byte_rng (x : Int32) : -128 ≤ x.toInt8.toInt32.toInt ∧ x.toInt8.toInt32.toInt < 128 := by
  rw [Int8.toInt_toInt32]
  have h1 := Int8.le_toInt x.toInt8
  have h2 := Int8.toInt_lt x.toInt8
  omega
theorem fb_short_rng (x : Int32) : -32768 ≤ x.toInt16.toInt32.toInt ∧ x.toInt16.toInt32.toInt < 32768 := by
  rw [Int16.toInt_toInt32]
  have h1 := Int16.le_toInt x.toInt16
  have h2 := Int16.toInt_lt x.toInt16
  omega
theorem fb_byte_twice (x : Int32) : x.toInt8.toInt32.toInt8.toInt32 = x.toInt8.toInt32 := fb_byte (fb_byte_rng x).1 (fb_byte_rng x).2
theorem fb_short_twice (x : Int32) : x.toInt16.toInt32.toInt16.toInt32 = x.toInt16.toInt32 := fb_short (fb_short_rng x).1 (fb_short_rng x).2
theorem fb_char {n : Nat} (h : n < 65536) : (nI n).toUInt32.toUInt16.toUInt32.toInt32 = nI n := by
  apply Int32.toBitVec_inj.1
  apply BitVec.eq_of_toNat_eq
  have e1 : (nI n).toBitVec.toNat = n := by
    show (BitVec.ofNat 32 n).toNat = n
    rw [BitVec.toNat_ofNat, Nat.mod_eq_of_lt (by omega)]
  have e2 : ((nI n).toUInt32.toUInt16.toUInt32).toNat = n := by
    rw [UInt16.toNat_toUInt32, UInt32.toNat_toUInt16]
    show (nI n).toBitVec.toNat % 2 ^ 16 = n
    rw [e1, Nat.mod_eq_of_lt (by omega)]
  rw [e1]
  exact e2
end
section
/-! THE TWO WORLDS; shapes of answers; rows over small numbers -/
def rfC (a k : Nat) : Option Nat := match a, k with
  | 0, 0 => some 1 | 0, 1 => some 3 | 0, 2 => some 9 | 0, 3 => some 12 | 0, 4 => some 13 | 0, 5 => some 19 | 0, 6 => some 25
  | 1, 0 => some 2
  | 3, 0 => some 4 | 3, 1 => some 5 | 3, 2 => some 6 | 3, 3 => some 7 | 3, 4 => some 8
  | 9, 0 => some 10 | 9, 1 => some 14
  | 10, 0 => some 11 | 10, 1 => some 15
  | 11, 1 => some 16
  | 12, 0 => some 9 | 12, 1 => some 17
  | 13, 1 => some 18
  | 19, 0 => some 20
  | 20, 0 => some 21 | 20, 1 => some 22 | 20, 2 => some 23 | 20, 3 => some 24
  | 25, 0 => some 26 | 25, 1 => some 27 | 25, 2 => some 28 | 25, 3 => some 29
  | _, _ => none
def shC : List (Nat × Nat × Nat) := [(0, 5, 0), (0, 4, 0), (1, 2, 24), (0, 0, 0), (1, 0, 128), (1, 0, 16), (1, 0, 16), (1, 0, 32), (1, 0, 32), (0, 2, 0), (0, 2, 0), (0, 2, 0), (0, 2, 0), (0, 2, 0), (1, 0, 64), (1, 0, 64), (1, 0, 64), (1, 0, 64), (1, 0, 64), (0, 1, 0), (0, 3, 0), (1, 1, 16), (1, 1, 16), (1, 0, 16), (1, 0, 16), (0, 3, 0), (1, 1, 2), (1, 1, 2), (1, 0, 2), (1, 0, 2)]
def ΩC : Shp := (shC, rfC)
def rfM (a k : Nat) : Option Nat := match a, k with
  | 0, 3 => some 1 | 0, 4 => some 2 | 0, 5 => some 3 | 0, 6 => some 4 | 0, 7 => some 5 | 0, 9 => some 6 | 0, 10 => some 7 | 0, 13 => some 8 | 0, 14 => some 9 | 0, 15 => some 10 | 0, 17 => some 11 | 0, 18 => some 12
  | _, _ => none
def shM : List (Nat × Nat × Nat) := [(0, 6, 0), (1, 0, 64), (1, 0, 64), (1, 0, 4), (1, 0, 4), (1, 0, 24), (1, 0, 1024), (1, 0, 4), (1, 0, 544), (1, 0, 256), (1, 0, 16), (1, 3, 2), (1, 0, 68)]
def ΩM : Shp := (shM, rfM)
/-- the answer v, nothing changed -/
def PQ (v : Value) (I : MemI) (J : MemJ) : Pst := fun r I' J' => r = some v ∧ I' = I ∧ J' = J
/-- no answer -/
def VQ (post : MemI → MemJ → Prop) : Pst := fun r I' J' => r = none ∧ post I' J'
/-- an int -/
def IQ (post : Int32 → MemI → MemJ → Prop) : Pst := fun r I' J' => ∃ x : Int32, r = some (.int x) ∧ post x I' J'
theorem pq_i {x y : Int32} {I : MemI} {J : MemJ} (h : x = y) : PQ (.int y) I J (some (.int x)) I J := ⟨by rw [h], rfl, rfl⟩
theorem pq_l {x y : Int64} {I : MemI} {J : MemJ} (h : x = y) : PQ (.long y) I J (some (.long x)) I J := ⟨by rw [h], rfl, rfl⟩
theorem vq_i {post : MemI → MemJ → Prop} {I : MemI} {J : MemJ} (h : post I J) : VQ post none I J := ⟨rfl, h⟩
theorem iq_i {post : Int32 → MemI → MemJ → Prop} {x : Int32} {I : MemI} {J : MemJ} (h : post x I J) : IQ post (some (.int x)) I J := ⟨x, rfl, h⟩
def bI (b : Bool) : Int32 := nI b.toNat
theorem bI_t : bI true = nI 1 := rfl
theorem bI_f : bI false = nI 0 := rfl
theorem bI_narrow (b : Bool) : narrow .boolean (.int (bI b)) = .int (bI b) := by cases b <;> decide +kernel
theorem nI_narrow01 {n : Nat} (h : n < 2) : narrow .boolean (.int (nI n)) = .int (nI n) := by
  rcases (show n = 0 ∨ n = 1 by omega) with rfl | rfl <;> decide +kernel
section NRW
variable {Ω : Shp} {d : Nat} {K : Mth} {pc : Nat} {L : Lcs} {S : List Value} {I : MemI} {J : MemJ} {Q : Pst}
theorem wp_iconstN {n : Int} {m : Nat} (hd : decode K.2.1 pc = .ok (.iconst n, 1)) (hn : n = (m : Int)) (k : WP Ω d K (pc + 1) L (.int (nI m) :: S) I J Q) : WP Ω d K pc L S I J Q :=
  wp_iconst hd (v := nI m) (by subst hn; rfl) k
theorem wp_iaddN {a b : Nat} (hd : decode K.2.1 pc = .ok (.iadd, 1)) (k : WP Ω d K (pc + 1) L (.int (nI (a + b)) :: S) I J Q) : WP Ω d K pc L (.int (nI b) :: .int (nI a) :: S) I J Q :=
  wp_iadd hd (by rw [nI_add]; exact k)
theorem wp_isubN {a b : Nat} (hd : decode K.2.1 pc = .ok (.isub, 1)) (h : b ≤ a) (k : WP Ω d K (pc + 1) L (.int (nI (a - b)) :: S) I J Q) : WP Ω d K pc L (.int (nI b) :: .int (nI a) :: S) I J Q :=
  wp_isub hd (by rw [pk_sub h]; exact k)
theorem wp_imulN {a b : Nat} (hd : decode K.2.1 pc = .ok (.imul, 1)) (k : WP Ω d K (pc + 1) L (.int (nI (a * b)) :: S) I J Q) : WP Ω d K pc L (.int (nI b) :: .int (nI a) :: S) I J Q :=
  wp_imul hd (by rw [pk_mul]; exact k)
theorem wp_idivN {a b : Nat} (hd : decode K.2.1 pc = .ok (.idiv, 1)) (ha : a < 2147483648) (h0 : 0 < b) (hb : b < 2147483648) (k : WP Ω d K (pc + 1) L (.int (nI (a / b)) :: S) I J Q) : WP Ω d K pc L (.int (nI b) :: .int (nI a) :: S) I J Q :=
  wp_idiv hd (nI_ne0 h0 hb) (by rw [pk_div ha h0 hb]; exact k)
theorem wp_iremN {a b : Nat} (hd : decode K.2.1 pc = .ok (.irem, 1)) (ha : a < 2147483648) (h0 : 0 < b) (hb : b < 2147483648) (k : WP Ω d K (pc + 1) L (.int (nI (a % b)) :: S) I J Q) : WP Ω d K pc L (.int (nI b) :: .int (nI a) :: S) I J Q :=
  wp_irem hd (nI_ne0 h0 hb) (by rw [pk_rem ha h0 hb]; exact k)
theorem wp_iandN {a b : Nat} (hd : decode K.2.1 pc = .ok (.iand, 1)) (k : WP Ω d K (pc + 1) L (.int (nI (a &&& b)) :: S) I J Q) : WP Ω d K pc L (.int (nI b) :: .int (nI a) :: S) I J Q :=
  wp_iand hd (by rw [fa_and]; exact k)
theorem wp_iorN {a b : Nat} (hd : decode K.2.1 pc = .ok (.ior, 1)) (k : WP Ω d K (pc + 1) L (.int (nI (a ||| b)) :: S) I J Q) : WP Ω d K pc L (.int (nI b) :: .int (nI a) :: S) I J Q :=
  wp_ior hd (by rw [fa_or]; exact k)
theorem shl_1 : ∀ c, c < 31 → (nI 1 <<< (nI c &&& 31)) = nI (2 ^ c) := by decide +kernel
theorem wp_ishl1 {c : Nat} (hd : decode K.2.1 pc = .ok (.ishl, 1)) (hc : c < 31) (k : WP Ω d K (pc + 1) L (.int (nI (2 ^ c)) :: S) I J Q) : WP Ω d K pc L (.int (nI c) :: .int (nI 1) :: S) I J Q :=
  wp_ishl hd (by rw [shl_1 c hc]; exact k)
theorem wp_ishlN {a c : Nat} (hd : decode K.2.1 pc = .ok (.ishl, 1)) (hc : c < 32) (ha : a * 2 ^ c < 4294967296) (k : WP Ω d K (pc + 1) L (.int (nI (a * 2 ^ c)) :: S) I J Q) : WP Ω d K pc L (.int (nI c) :: .int (nI a) :: S) I J Q :=
  wp_ishl hd (by rw [pk_shlN (nI c &&& 31) c (s_l c hc) ha]; exact k)
theorem wp_ishrN {a c : Nat} (hd : decode K.2.1 pc = .ok (.ishr, 1)) (hc : c < 32) (ha : a < 2147483648) (k : WP Ω d K (pc + 1) L (.int (nI (a / 2 ^ c)) :: S) I J Q) : WP Ω d K pc L (.int (nI c) :: .int (nI a) :: S) I J Q :=
  wp_ishr hd (by rw [pk_shrN ha (nI c &&& 31) c (s_l c hc)]; exact k)
theorem wp_i2lN {a : Nat} (hd : decode K.2.1 pc = .ok (.i2l, 1)) (ha : a < 2147483648) (k : WP Ω d K (pc + 1) L (.long (lN a) :: S) I J Q) : WP Ω d K pc L (.int (nI a) :: S) I J Q :=
  wp_i2l hd (by rw [nI_l ha]; exact k)
theorem wp_l2iN {a : Nat} (hd : decode K.2.1 pc = .ok (.l2i, 1)) (k : WP Ω d K (pc + 1) L (.int (nI a) :: S) I J Q) : WP Ω d K pc L (.long (lN a) :: S) I J Q :=
  wp_l2i hd (by rw [lN_i]; exact k)
theorem wp_iincN {i a m : Nat} {n : Int} (hd : decode K.2.1 pc = .ok (.iinc i n, 3)) (hx : lget L i = some (.int (nI a))) (hm : n = (m : Int)) (hn : i < K.2.2.1) (k : WP Ω d K (pc + 3) (lset1 L i (.int (nI (a + m)))) S I J Q) : WP Ω d K pc L S I J Q :=
  wp_iinc hd hx (v := nI (a + m)) (by subst hm; exact nI_add a m) hn k
theorem wp_iincD {i a : Nat} (hd : decode K.2.1 pc = .ok (.iinc i (-1), 3)) (hx : lget L i = some (.int (nI (a + 1)))) (hn : i < K.2.2.1) (k : WP Ω d K (pc + 3) (lset1 L i (.int (nI a))) S I J Q) : WP Ω d K pc L S I J Q :=
  wp_iinc hd hx (v := nI a) (pk_m1 a) hn k
theorem wp_icmp_eqN {a b : Nat} {off : Int} {tgt : Nat} (hd : decode K.2.1 pc = .ok (.if_icmp .eq off, 3)) (ht : (pc : Int) + off = (tgt : Int)) (ha : a < 2147483648) (hb : b < 2147483648) (kt : a = b → WP Ω d K tgt L S I J Q) (kf : ¬ a = b → WP Ω d K (pc + 3) L S I J Q) : WP Ω d K pc L (.int (nI b) :: .int (nI a) :: S) I J Q :=
  wp_icmp_eq hd ht (fun h => kt ((nI_eq ha hb).mp h)) (fun h => kf (fun z => h ((nI_eq ha hb).mpr z)))
theorem wp_icmp_neN {a b : Nat} {off : Int} {tgt : Nat} (hd : decode K.2.1 pc = .ok (.if_icmp .ne off, 3)) (ht : (pc : Int) + off = (tgt : Int)) (ha : a < 2147483648) (hb : b < 2147483648) (kt : ¬ a = b → WP Ω d K tgt L S I J Q) (kf : a = b → WP Ω d K (pc + 3) L S I J Q) : WP Ω d K pc L (.int (nI b) :: .int (nI a) :: S) I J Q :=
  wp_icmp_ne hd ht (fun h => kt (fun z => h ((nI_eq ha hb).mpr z))) (fun h => kf ((nI_eq ha hb).mp h))
theorem wp_icmp_ltN {a b : Nat} {off : Int} {tgt : Nat} (hd : decode K.2.1 pc = .ok (.if_icmp .lt off, 3)) (ht : (pc : Int) + off = (tgt : Int)) (ha : a < 2147483648) (hb : b < 2147483648) (kt : a < b → WP Ω d K tgt L S I J Q) (kf : ¬ a < b → WP Ω d K (pc + 3) L S I J Q) : WP Ω d K pc L (.int (nI b) :: .int (nI a) :: S) I J Q :=
  wp_icmp_lt hd ht (fun h => kt ((nI_ltI ha hb).mp h)) (fun h => kf (fun z => h ((nI_ltI ha hb).mpr z)))
theorem wp_icmp_geN {a b : Nat} {off : Int} {tgt : Nat} (hd : decode K.2.1 pc = .ok (.if_icmp .ge off, 3)) (ht : (pc : Int) + off = (tgt : Int)) (ha : a < 2147483648) (hb : b < 2147483648) (kt : b ≤ a → WP Ω d K tgt L S I J Q) (kf : ¬ b ≤ a → WP Ω d K (pc + 3) L S I J Q) : WP Ω d K pc L (.int (nI b) :: .int (nI a) :: S) I J Q :=
  wp_icmp_ge hd ht (fun h => kt ((nI_leI hb ha).mp h)) (fun h => kf (fun z => h ((nI_leI hb ha).mpr z)))
theorem wp_icmp_gtN {a b : Nat} {off : Int} {tgt : Nat} (hd : decode K.2.1 pc = .ok (.if_icmp .gt off, 3)) (ht : (pc : Int) + off = (tgt : Int)) (ha : a < 2147483648) (hb : b < 2147483648) (kt : b < a → WP Ω d K tgt L S I J Q) (kf : ¬ b < a → WP Ω d K (pc + 3) L S I J Q) : WP Ω d K pc L (.int (nI b) :: .int (nI a) :: S) I J Q :=
  wp_icmp_gt hd ht (fun h => kt ((nI_ltI hb ha).mp h)) (fun h => kf (fun z => h ((nI_ltI hb ha).mpr z)))
theorem wp_icmp_leN {a b : Nat} {off : Int} {tgt : Nat} (hd : decode K.2.1 pc = .ok (.if_icmp .le off, 3)) (ht : (pc : Int) + off = (tgt : Int)) (ha : a < 2147483648) (hb : b < 2147483648) (kt : a ≤ b → WP Ω d K tgt L S I J Q) (kf : ¬ a ≤ b → WP Ω d K (pc + 3) L S I J Q) : WP Ω d K pc L (.int (nI b) :: .int (nI a) :: S) I J Q :=
  wp_icmp_le hd ht (fun h => kt ((nI_leI ha hb).mp h)) (fun h => kf (fun z => h ((nI_leI ha hb).mpr z)))
theorem wp_if_eqN {a : Nat} {off : Int} {tgt : Nat} (hd : decode K.2.1 pc = .ok (.ifCond .eq off, 3)) (ht : (pc : Int) + off = (tgt : Int)) (ha : a < 2147483648) (kt : a = 0 → WP Ω d K tgt L S I J Q) (kf : ¬ a = 0 → WP Ω d K (pc + 3) L S I J Q) : WP Ω d K pc L (.int (nI a) :: S) I J Q :=
  wp_if_eq hd ht (fun h => kt ((nI_eq (b := 0) ha (by decide)).mp h)) (fun h => kf (fun z => h (by rw [z]; rfl)))
theorem wp_if_neN {a : Nat} {off : Int} {tgt : Nat} (hd : decode K.2.1 pc = .ok (.ifCond .ne off, 3)) (ht : (pc : Int) + off = (tgt : Int)) (ha : a < 2147483648) (kt : ¬ a = 0 → WP Ω d K tgt L S I J Q) (kf : a = 0 → WP Ω d K (pc + 3) L S I J Q) : WP Ω d K pc L (.int (nI a) :: S) I J Q :=
  wp_if_ne hd ht (fun h => kt (fun z => h (by rw [z]; rfl))) (fun h => kf ((nI_eq (b := 0) ha (by decide)).mp h))
theorem wp_if_ltN {a : Nat} {off : Int} {tgt : Nat} (hd : decode K.2.1 pc = .ok (.ifCond .lt off, 3)) (ht : (pc : Int) + off = (tgt : Int)) (ha : a < 2147483648) (kf : WP Ω d K (pc + 3) L S I J Q) : WP Ω d K pc L (.int (nI a) :: S) I J Q :=
  wp_if_lt hd ht (fun h => absurd h (nI_pos ha)) (fun _ => kf)
theorem wp_if_geN {a : Nat} {off : Int} {tgt : Nat} (hd : decode K.2.1 pc = .ok (.ifCond .ge off, 3)) (ht : (pc : Int) + off = (tgt : Int)) (ha : a < 2147483648) (kt : WP Ω d K tgt L S I J Q) : WP Ω d K pc L (.int (nI a) :: S) I J Q :=
  wp_if_ge hd ht (fun _ => kt) (fun h => absurd (nI_pos' ha) h)
theorem wp_if_leN {a : Nat} {off : Int} {tgt : Nat} (hd : decode K.2.1 pc = .ok (.ifCond .le off, 3)) (ht : (pc : Int) + off = (tgt : Int)) (ha : a < 2147483648) (kt : a = 0 → WP Ω d K tgt L S I J Q) (kf : 0 < a → WP Ω d K (pc + 3) L S I J Q) : WP Ω d K pc L (.int (nI a) :: S) I J Q :=
  wp_if_le hd ht (fun h => kt (Nat.le_zero.mp ((nI_leI (b := 0) ha (by decide)).mp h))) (fun h => kf (Nat.pos_of_ne_zero (fun z => h (by rw [z]; exact nI_pos' (by decide)))))
theorem wp_if_gtN {a : Nat} {off : Int} {tgt : Nat} (hd : decode K.2.1 pc = .ok (.ifCond .gt off, 3)) (ht : (pc : Int) + off = (tgt : Int)) (ha : a < 2147483648) (kt : 0 < a → WP Ω d K tgt L S I J Q) (kf : a = 0 → WP Ω d K (pc + 3) L S I J Q) : WP Ω d K pc L (.int (nI a) :: S) I J Q :=
  wp_if_gt hd ht (fun h => kt ((nI_ltI (a := 0) (by decide) ha).mp h)) (fun h => kf (Nat.eq_zero_of_not_pos (fun z => h ((nI_ltI (a := 0) (by decide) ha).mpr z))))
theorem wp_if_eqB {b : Bool} {off : Int} {tgt : Nat} (hd : decode K.2.1 pc = .ok (.ifCond .eq off, 3)) (ht : (pc : Int) + off = (tgt : Int)) (kt : b = false → WP Ω d K tgt L S I J Q) (kf : b = true → WP Ω d K (pc + 3) L S I J Q) : WP Ω d K pc L (.int (bI b) :: S) I J Q := by
  cases b with
  | false => exact wp_if_eq hd ht (fun _ => kt rfl) (fun h => absurd rfl h)
  | true => exact wp_if_eq hd ht (fun h => absurd h (by decide)) (fun _ => kf rfl)
theorem wp_if_neB {b : Bool} {off : Int} {tgt : Nat} (hd : decode K.2.1 pc = .ok (.ifCond .ne off, 3)) (ht : (pc : Int) + off = (tgt : Int)) (kt : b = true → WP Ω d K tgt L S I J Q) (kf : b = false → WP Ω d K (pc + 3) L S I J Q) : WP Ω d K pc L (.int (bI b) :: S) I J Q := by
  cases b with
  | false => exact wp_if_ne hd ht (fun h => absurd rfl h) (fun _ => kf rfl)
  | true => exact wp_if_ne hd ht (fun _ => kt rfl) (fun h => absurd h (by decide))
theorem wp_cVP0 {q0 ci y idx : Nat} {v : Value} {K' : Mth} (hd : decode K.2.1 pc = .ok (.invokevirtual idx, 3)) (lk : LM K.1.cls idx K') (mi : MIn K' 0) (ha : Ω.1[q0]? = some (0, ci, y)) (hb : Nat.beq q0 1010 = false) (hci : ci < 7) (hc : cNm ci = K'.1.cls) (hw : (S.map fun v => v.category).sum ≤ 8) (hC : CALL Ω d K' [.ref q0] I J (PQ v I J)) (k : WP Ω (d + 1) K (pc + 3) L (v :: S) I J Q) : WP Ω (d + 1) K pc L (.ref q0 :: S) I J Q :=
  wp_callV (as := []) hd lk mi ha hb hci hc rfl rfl hw hC (fun r I' J' h => by obtain ⟨rfl, rfl, rfl⟩ := h; exact k)
theorem wp_cSP0 {idx : Nat} {v : Value} {K' : Mth} (hd : decode K.2.1 pc = .ok (.invokestatic idx, 3)) (lk : LM K.1.cls idx K') (mi : MSn K' 0) (hw : (S.map fun v => v.category).sum ≤ 8) (hC : CALL Ω d K' [] I J (PQ v I J)) (k : WP Ω (d + 1) K (pc + 3) L (v :: S) I J Q) : WP Ω (d + 1) K pc L (S) I J Q :=
  wp_callS (as := []) hd lk mi rfl rfl hw hC (fun r I' J' h => by obtain ⟨rfl, rfl, rfl⟩ := h; exact k)
theorem wp_cTP0 {q0 idx : Nat} {v : Value} {K' : Mth} (hd : decode K.2.1 pc = .ok (.invokevirtual idx, 3)) (lk : LM K.1.cls idx K') (hn : ∀ q ∈ nestM, ¬ q.2.2.1 = K'.1) (mi : MIn K' 0) (h1 : 1004 ≤ q0) (h2 : q0 < 1006) (hc : K'.1.cls = RJ0) (hw : (S.map fun v => v.category).sum ≤ 8) (hC : CALL Ω d K' [.ref q0] I J (PQ v I J)) (k : WP Ω (d + 1) K (pc + 3) L (v :: S) I J Q) : WP Ω (d + 1) K pc L (.ref q0 :: S) I J Q :=
  wp_callT (as := []) hd (lk.elim id (fun h => absurd rfl (hn _ h))) mi h1 h2 hc rfl rfl hw hC (fun r I' J' h => by obtain ⟨rfl, rfl, rfl⟩ := h; exact k)
theorem wp_cVV0 {q0 ci y idx : Nat} {post : MemI → MemJ → Prop} {K' : Mth} (hd : decode K.2.1 pc = .ok (.invokevirtual idx, 3)) (lk : LM K.1.cls idx K') (mi : MIn K' 0) (ha : Ω.1[q0]? = some (0, ci, y)) (hb : Nat.beq q0 1010 = false) (hci : ci < 7) (hc : cNm ci = K'.1.cls) (hw : (S.map fun v => v.category).sum ≤ 8) (hC : CALL Ω d K' [.ref q0] I J (VQ post)) (k : ∀ I' J', post I' J' → WP Ω (d + 1) K (pc + 3) L S I' J' Q) : WP Ω (d + 1) K pc L (.ref q0 :: S) I J Q :=
  wp_callV (as := []) hd lk mi ha hb hci hc rfl rfl hw hC (fun r I' J' h => by obtain ⟨rfl, h⟩ := h; exact k I' J' h)
theorem wp_cSV0 {idx : Nat} {post : MemI → MemJ → Prop} {K' : Mth} (hd : decode K.2.1 pc = .ok (.invokestatic idx, 3)) (lk : LM K.1.cls idx K') (mi : MSn K' 0) (hw : (S.map fun v => v.category).sum ≤ 8) (hC : CALL Ω d K' [] I J (VQ post)) (k : ∀ I' J', post I' J' → WP Ω (d + 1) K (pc + 3) L S I' J' Q) : WP Ω (d + 1) K pc L (S) I J Q :=
  wp_callS (as := []) hd lk mi rfl rfl hw hC (fun r I' J' h => by obtain ⟨rfl, h⟩ := h; exact k I' J' h)
theorem wp_cVI0 {q0 ci y idx : Nat} {post : Int32 → MemI → MemJ → Prop} {K' : Mth} (hd : decode K.2.1 pc = .ok (.invokevirtual idx, 3)) (lk : LM K.1.cls idx K') (mi : MIn K' 0) (ha : Ω.1[q0]? = some (0, ci, y)) (hb : Nat.beq q0 1010 = false) (hci : ci < 7) (hc : cNm ci = K'.1.cls) (hw : (S.map fun v => v.category).sum ≤ 8) (hC : CALL Ω d K' [.ref q0] I J (IQ post)) (k : ∀ x I' J', post x I' J' → WP Ω (d + 1) K (pc + 3) L (.int x :: S) I' J' Q) : WP Ω (d + 1) K pc L (.ref q0 :: S) I J Q :=
  wp_callV (as := []) hd lk mi ha hb hci hc rfl rfl hw hC (fun r I' J' h => by obtain ⟨x, rfl, h⟩ := h; exact k x I' J' h)
theorem wp_cSI0 {idx : Nat} {post : Int32 → MemI → MemJ → Prop} {K' : Mth} (hd : decode K.2.1 pc = .ok (.invokestatic idx, 3)) (lk : LM K.1.cls idx K') (mi : MSn K' 0) (hw : (S.map fun v => v.category).sum ≤ 8) (hC : CALL Ω d K' [] I J (IQ post)) (k : ∀ x I' J', post x I' J' → WP Ω (d + 1) K (pc + 3) L (.int x :: S) I' J' Q) : WP Ω (d + 1) K pc L (S) I J Q :=
  wp_callS (as := []) hd lk mi rfl rfl hw hC (fun r I' J' h => by obtain ⟨x, rfl, h⟩ := h; exact k x I' J' h)
theorem wp_cVP1 {q0 ci y idx : Nat} {v1 : Value} {v : Value} {K' : Mth} (hd : decode K.2.1 pc = .ok (.invokevirtual idx, 3)) (lk : LM K.1.cls idx K') (mi : MIn K' 1) (ha : Ω.1[q0]? = some (0, ci, y)) (hb : Nat.beq q0 1010 = false) (hci : ci < 7) (hc : cNm ci = K'.1.cls) (hw : (S.map fun v => v.category).sum ≤ 8) (hC : CALL Ω d K' [.ref q0, v1] I J (PQ v I J)) (k : WP Ω (d + 1) K (pc + 3) L (v :: S) I J Q) : WP Ω (d + 1) K pc L (v1 :: .ref q0 :: S) I J Q :=
  wp_callV (as := [v1]) hd lk mi ha hb hci hc rfl rfl hw hC (fun r I' J' h => by obtain ⟨rfl, rfl, rfl⟩ := h; exact k)
theorem wp_cSP1 {idx : Nat} {v1 : Value} {v : Value} {K' : Mth} (hd : decode K.2.1 pc = .ok (.invokestatic idx, 3)) (lk : LM K.1.cls idx K') (mi : MSn K' 1) (hw : (S.map fun v => v.category).sum ≤ 8) (hC : CALL Ω d K' [v1] I J (PQ v I J)) (k : WP Ω (d + 1) K (pc + 3) L (v :: S) I J Q) : WP Ω (d + 1) K pc L (v1 :: S) I J Q :=
  wp_callS (as := [v1]) hd lk mi rfl rfl hw hC (fun r I' J' h => by obtain ⟨rfl, rfl, rfl⟩ := h; exact k)
theorem wp_cTP1 {q0 idx : Nat} {v1 : Value} {v : Value} {K' : Mth} (hd : decode K.2.1 pc = .ok (.invokevirtual idx, 3)) (lk : LM K.1.cls idx K') (hn : ∀ q ∈ nestM, ¬ q.2.2.1 = K'.1) (mi : MIn K' 1) (h1 : 1004 ≤ q0) (h2 : q0 < 1006) (hc : K'.1.cls = RJ0) (hw : (S.map fun v => v.category).sum ≤ 8) (hC : CALL Ω d K' [.ref q0, v1] I J (PQ v I J)) (k : WP Ω (d + 1) K (pc + 3) L (v :: S) I J Q) : WP Ω (d + 1) K pc L (v1 :: .ref q0 :: S) I J Q :=
  wp_callT (as := [v1]) hd (lk.elim id (fun h => absurd rfl (hn _ h))) mi h1 h2 hc rfl rfl hw hC (fun r I' J' h => by obtain ⟨rfl, rfl, rfl⟩ := h; exact k)
theorem wp_cVV1 {q0 ci y idx : Nat} {v1 : Value} {post : MemI → MemJ → Prop} {K' : Mth} (hd : decode K.2.1 pc = .ok (.invokevirtual idx, 3)) (lk : LM K.1.cls idx K') (mi : MIn K' 1) (ha : Ω.1[q0]? = some (0, ci, y)) (hb : Nat.beq q0 1010 = false) (hci : ci < 7) (hc : cNm ci = K'.1.cls) (hw : (S.map fun v => v.category).sum ≤ 8) (hC : CALL Ω d K' [.ref q0, v1] I J (VQ post)) (k : ∀ I' J', post I' J' → WP Ω (d + 1) K (pc + 3) L S I' J' Q) : WP Ω (d + 1) K pc L (v1 :: .ref q0 :: S) I J Q :=
  wp_callV (as := [v1]) hd lk mi ha hb hci hc rfl rfl hw hC (fun r I' J' h => by obtain ⟨rfl, h⟩ := h; exact k I' J' h)
theorem wp_cSV1 {idx : Nat} {v1 : Value} {post : MemI → MemJ → Prop} {K' : Mth} (hd : decode K.2.1 pc = .ok (.invokestatic idx, 3)) (lk : LM K.1.cls idx K') (mi : MSn K' 1) (hw : (S.map fun v => v.category).sum ≤ 8) (hC : CALL Ω d K' [v1] I J (VQ post)) (k : ∀ I' J', post I' J' → WP Ω (d + 1) K (pc + 3) L S I' J' Q) : WP Ω (d + 1) K pc L (v1 :: S) I J Q :=
  wp_callS (as := [v1]) hd lk mi rfl rfl hw hC (fun r I' J' h => by obtain ⟨rfl, h⟩ := h; exact k I' J' h)
theorem wp_cVI1 {q0 ci y idx : Nat} {v1 : Value} {post : Int32 → MemI → MemJ → Prop} {K' : Mth} (hd : decode K.2.1 pc = .ok (.invokevirtual idx, 3)) (lk : LM K.1.cls idx K') (mi : MIn K' 1) (ha : Ω.1[q0]? = some (0, ci, y)) (hb : Nat.beq q0 1010 = false) (hci : ci < 7) (hc : cNm ci = K'.1.cls) (hw : (S.map fun v => v.category).sum ≤ 8) (hC : CALL Ω d K' [.ref q0, v1] I J (IQ post)) (k : ∀ x I' J', post x I' J' → WP Ω (d + 1) K (pc + 3) L (.int x :: S) I' J' Q) : WP Ω (d + 1) K pc L (v1 :: .ref q0 :: S) I J Q :=
  wp_callV (as := [v1]) hd lk mi ha hb hci hc rfl rfl hw hC (fun r I' J' h => by obtain ⟨x, rfl, h⟩ := h; exact k x I' J' h)
theorem wp_cSI1 {idx : Nat} {v1 : Value} {post : Int32 → MemI → MemJ → Prop} {K' : Mth} (hd : decode K.2.1 pc = .ok (.invokestatic idx, 3)) (lk : LM K.1.cls idx K') (mi : MSn K' 1) (hw : (S.map fun v => v.category).sum ≤ 8) (hC : CALL Ω d K' [v1] I J (IQ post)) (k : ∀ x I' J', post x I' J' → WP Ω (d + 1) K (pc + 3) L (.int x :: S) I' J' Q) : WP Ω (d + 1) K pc L (v1 :: S) I J Q :=
  wp_callS (as := [v1]) hd lk mi rfl rfl hw hC (fun r I' J' h => by obtain ⟨x, rfl, h⟩ := h; exact k x I' J' h)
theorem wp_cVP2 {q0 ci y idx : Nat} {v1 v2 : Value} {v : Value} {K' : Mth} (hd : decode K.2.1 pc = .ok (.invokevirtual idx, 3)) (lk : LM K.1.cls idx K') (mi : MIn K' 2) (ha : Ω.1[q0]? = some (0, ci, y)) (hb : Nat.beq q0 1010 = false) (hci : ci < 7) (hc : cNm ci = K'.1.cls) (hw : (S.map fun v => v.category).sum ≤ 8) (hC : CALL Ω d K' [.ref q0, v1, v2] I J (PQ v I J)) (k : WP Ω (d + 1) K (pc + 3) L (v :: S) I J Q) : WP Ω (d + 1) K pc L (v2 :: v1 :: .ref q0 :: S) I J Q :=
  wp_callV (as := [v1, v2]) hd lk mi ha hb hci hc rfl rfl hw hC (fun r I' J' h => by obtain ⟨rfl, rfl, rfl⟩ := h; exact k)
theorem wp_cSP2 {idx : Nat} {v1 v2 : Value} {v : Value} {K' : Mth} (hd : decode K.2.1 pc = .ok (.invokestatic idx, 3)) (lk : LM K.1.cls idx K') (mi : MSn K' 2) (hw : (S.map fun v => v.category).sum ≤ 8) (hC : CALL Ω d K' [v1, v2] I J (PQ v I J)) (k : WP Ω (d + 1) K (pc + 3) L (v :: S) I J Q) : WP Ω (d + 1) K pc L (v2 :: v1 :: S) I J Q :=
  wp_callS (as := [v1, v2]) hd lk mi rfl rfl hw hC (fun r I' J' h => by obtain ⟨rfl, rfl, rfl⟩ := h; exact k)
theorem wp_cTP2 {q0 idx : Nat} {v1 v2 : Value} {v : Value} {K' : Mth} (hd : decode K.2.1 pc = .ok (.invokevirtual idx, 3)) (lk : LM K.1.cls idx K') (hn : ∀ q ∈ nestM, ¬ q.2.2.1 = K'.1) (mi : MIn K' 2) (h1 : 1004 ≤ q0) (h2 : q0 < 1006) (hc : K'.1.cls = RJ0) (hw : (S.map fun v => v.category).sum ≤ 8) (hC : CALL Ω d K' [.ref q0, v1, v2] I J (PQ v I J)) (k : WP Ω (d + 1) K (pc + 3) L (v :: S) I J Q) : WP Ω (d + 1) K pc L (v2 :: v1 :: .ref q0 :: S) I J Q :=
  wp_callT (as := [v1, v2]) hd (lk.elim id (fun h => absurd rfl (hn _ h))) mi h1 h2 hc rfl rfl hw hC (fun r I' J' h => by obtain ⟨rfl, rfl, rfl⟩ := h; exact k)
theorem wp_cVV2 {q0 ci y idx : Nat} {v1 v2 : Value} {post : MemI → MemJ → Prop} {K' : Mth} (hd : decode K.2.1 pc = .ok (.invokevirtual idx, 3)) (lk : LM K.1.cls idx K') (mi : MIn K' 2) (ha : Ω.1[q0]? = some (0, ci, y)) (hb : Nat.beq q0 1010 = false) (hci : ci < 7) (hc : cNm ci = K'.1.cls) (hw : (S.map fun v => v.category).sum ≤ 8) (hC : CALL Ω d K' [.ref q0, v1, v2] I J (VQ post)) (k : ∀ I' J', post I' J' → WP Ω (d + 1) K (pc + 3) L S I' J' Q) : WP Ω (d + 1) K pc L (v2 :: v1 :: .ref q0 :: S) I J Q :=
  wp_callV (as := [v1, v2]) hd lk mi ha hb hci hc rfl rfl hw hC (fun r I' J' h => by obtain ⟨rfl, h⟩ := h; exact k I' J' h)
theorem wp_cSV2 {idx : Nat} {v1 v2 : Value} {post : MemI → MemJ → Prop} {K' : Mth} (hd : decode K.2.1 pc = .ok (.invokestatic idx, 3)) (lk : LM K.1.cls idx K') (mi : MSn K' 2) (hw : (S.map fun v => v.category).sum ≤ 8) (hC : CALL Ω d K' [v1, v2] I J (VQ post)) (k : ∀ I' J', post I' J' → WP Ω (d + 1) K (pc + 3) L S I' J' Q) : WP Ω (d + 1) K pc L (v2 :: v1 :: S) I J Q :=
  wp_callS (as := [v1, v2]) hd lk mi rfl rfl hw hC (fun r I' J' h => by obtain ⟨rfl, h⟩ := h; exact k I' J' h)
theorem wp_cVI2 {q0 ci y idx : Nat} {v1 v2 : Value} {post : Int32 → MemI → MemJ → Prop} {K' : Mth} (hd : decode K.2.1 pc = .ok (.invokevirtual idx, 3)) (lk : LM K.1.cls idx K') (mi : MIn K' 2) (ha : Ω.1[q0]? = some (0, ci, y)) (hb : Nat.beq q0 1010 = false) (hci : ci < 7) (hc : cNm ci = K'.1.cls) (hw : (S.map fun v => v.category).sum ≤ 8) (hC : CALL Ω d K' [.ref q0, v1, v2] I J (IQ post)) (k : ∀ x I' J', post x I' J' → WP Ω (d + 1) K (pc + 3) L (.int x :: S) I' J' Q) : WP Ω (d + 1) K pc L (v2 :: v1 :: .ref q0 :: S) I J Q :=
  wp_callV (as := [v1, v2]) hd lk mi ha hb hci hc rfl rfl hw hC (fun r I' J' h => by obtain ⟨x, rfl, h⟩ := h; exact k x I' J' h)
theorem wp_cSI2 {idx : Nat} {v1 v2 : Value} {post : Int32 → MemI → MemJ → Prop} {K' : Mth} (hd : decode K.2.1 pc = .ok (.invokestatic idx, 3)) (lk : LM K.1.cls idx K') (mi : MSn K' 2) (hw : (S.map fun v => v.category).sum ≤ 8) (hC : CALL Ω d K' [v1, v2] I J (IQ post)) (k : ∀ x I' J', post x I' J' → WP Ω (d + 1) K (pc + 3) L (.int x :: S) I' J' Q) : WP Ω (d + 1) K pc L (v2 :: v1 :: S) I J Q :=
  wp_callS (as := [v1, v2]) hd lk mi rfl rfl hw hC (fun r I' J' h => by obtain ⟨x, rfl, h⟩ := h; exact k x I' J' h)
theorem wp_cVP3 {q0 ci y idx : Nat} {v1 v2 v3 : Value} {v : Value} {K' : Mth} (hd : decode K.2.1 pc = .ok (.invokevirtual idx, 3)) (lk : LM K.1.cls idx K') (mi : MIn K' 3) (ha : Ω.1[q0]? = some (0, ci, y)) (hb : Nat.beq q0 1010 = false) (hci : ci < 7) (hc : cNm ci = K'.1.cls) (hw : (S.map fun v => v.category).sum ≤ 8) (hC : CALL Ω d K' [.ref q0, v1, v2, v3] I J (PQ v I J)) (k : WP Ω (d + 1) K (pc + 3) L (v :: S) I J Q) : WP Ω (d + 1) K pc L (v3 :: v2 :: v1 :: .ref q0 :: S) I J Q :=
  wp_callV (as := [v1, v2, v3]) hd lk mi ha hb hci hc rfl rfl hw hC (fun r I' J' h => by obtain ⟨rfl, rfl, rfl⟩ := h; exact k)
theorem wp_cSP3 {idx : Nat} {v1 v2 v3 : Value} {v : Value} {K' : Mth} (hd : decode K.2.1 pc = .ok (.invokestatic idx, 3)) (lk : LM K.1.cls idx K') (mi : MSn K' 3) (hw : (S.map fun v => v.category).sum ≤ 8) (hC : CALL Ω d K' [v1, v2, v3] I J (PQ v I J)) (k : WP Ω (d + 1) K (pc + 3) L (v :: S) I J Q) : WP Ω (d + 1) K pc L (v3 :: v2 :: v1 :: S) I J Q :=
  wp_callS (as := [v1, v2, v3]) hd lk mi rfl rfl hw hC (fun r I' J' h => by obtain ⟨rfl, rfl, rfl⟩ := h; exact k)
theorem wp_cVV3 {q0 ci y idx : Nat} {v1 v2 v3 : Value} {post : MemI → MemJ → Prop} {K' : Mth} (hd : decode K.2.1 pc = .ok (.invokevirtual idx, 3)) (lk : LM K.1.cls idx K') (mi : MIn K' 3) (ha : Ω.1[q0]? = some (0, ci, y)) (hb : Nat.beq q0 1010 = false) (hci : ci < 7) (hc : cNm ci = K'.1.cls) (hw : (S.map fun v => v.category).sum ≤ 8) (hC : CALL Ω d K' [.ref q0, v1, v2, v3] I J (VQ post)) (k : ∀ I' J', post I' J' → WP Ω (d + 1) K (pc + 3) L S I' J' Q) : WP Ω (d + 1) K pc L (v3 :: v2 :: v1 :: .ref q0 :: S) I J Q :=
  wp_callV (as := [v1, v2, v3]) hd lk mi ha hb hci hc rfl rfl hw hC (fun r I' J' h => by obtain ⟨rfl, h⟩ := h; exact k I' J' h)
theorem wp_cSV3 {idx : Nat} {v1 v2 v3 : Value} {post : MemI → MemJ → Prop} {K' : Mth} (hd : decode K.2.1 pc = .ok (.invokestatic idx, 3)) (lk : LM K.1.cls idx K') (mi : MSn K' 3) (hw : (S.map fun v => v.category).sum ≤ 8) (hC : CALL Ω d K' [v1, v2, v3] I J (VQ post)) (k : ∀ I' J', post I' J' → WP Ω (d + 1) K (pc + 3) L S I' J' Q) : WP Ω (d + 1) K pc L (v3 :: v2 :: v1 :: S) I J Q :=
  wp_callS (as := [v1, v2, v3]) hd lk mi rfl rfl hw hC (fun r I' J' h => by obtain ⟨rfl, h⟩ := h; exact k I' J' h)
theorem wp_cVI3 {q0 ci y idx : Nat} {v1 v2 v3 : Value} {post : Int32 → MemI → MemJ → Prop} {K' : Mth} (hd : decode K.2.1 pc = .ok (.invokevirtual idx, 3)) (lk : LM K.1.cls idx K') (mi : MIn K' 3) (ha : Ω.1[q0]? = some (0, ci, y)) (hb : Nat.beq q0 1010 = false) (hci : ci < 7) (hc : cNm ci = K'.1.cls) (hw : (S.map fun v => v.category).sum ≤ 8) (hC : CALL Ω d K' [.ref q0, v1, v2, v3] I J (IQ post)) (k : ∀ x I' J', post x I' J' → WP Ω (d + 1) K (pc + 3) L (.int x :: S) I' J' Q) : WP Ω (d + 1) K pc L (v3 :: v2 :: v1 :: .ref q0 :: S) I J Q :=
  wp_callV (as := [v1, v2, v3]) hd lk mi ha hb hci hc rfl rfl hw hC (fun r I' J' h => by obtain ⟨x, rfl, h⟩ := h; exact k x I' J' h)
theorem wp_cSI3 {idx : Nat} {v1 v2 v3 : Value} {post : Int32 → MemI → MemJ → Prop} {K' : Mth} (hd : decode K.2.1 pc = .ok (.invokestatic idx, 3)) (lk : LM K.1.cls idx K') (mi : MSn K' 3) (hw : (S.map fun v => v.category).sum ≤ 8) (hC : CALL Ω d K' [v1, v2, v3] I J (IQ post)) (k : ∀ x I' J', post x I' J' → WP Ω (d + 1) K (pc + 3) L (.int x :: S) I' J' Q) : WP Ω (d + 1) K pc L (v3 :: v2 :: v1 :: S) I J Q :=
  wp_callS (as := [v1, v2, v3]) hd lk mi rfl rfl hw hC (fun r I' J' h => by obtain ⟨x, rfl, h⟩ := h; exact k x I' J' h)
theorem wp_cVP4 {q0 ci y idx : Nat} {v1 v2 v3 v4 : Value} {v : Value} {K' : Mth} (hd : decode K.2.1 pc = .ok (.invokevirtual idx, 3)) (lk : LM K.1.cls idx K') (mi : MIn K' 4) (ha : Ω.1[q0]? = some (0, ci, y)) (hb : Nat.beq q0 1010 = false) (hci : ci < 7) (hc : cNm ci = K'.1.cls) (hw : (S.map fun v => v.category).sum ≤ 8) (hC : CALL Ω d K' [.ref q0, v1, v2, v3, v4] I J (PQ v I J)) (k : WP Ω (d + 1) K (pc + 3) L (v :: S) I J Q) : WP Ω (d + 1) K pc L (v4 :: v3 :: v2 :: v1 :: .ref q0 :: S) I J Q :=
  wp_callV (as := [v1, v2, v3, v4]) hd lk mi ha hb hci hc rfl rfl hw hC (fun r I' J' h => by obtain ⟨rfl, rfl, rfl⟩ := h; exact k)
theorem wp_cSP4 {idx : Nat} {v1 v2 v3 v4 : Value} {v : Value} {K' : Mth} (hd : decode K.2.1 pc = .ok (.invokestatic idx, 3)) (lk : LM K.1.cls idx K') (mi : MSn K' 4) (hw : (S.map fun v => v.category).sum ≤ 8) (hC : CALL Ω d K' [v1, v2, v3, v4] I J (PQ v I J)) (k : WP Ω (d + 1) K (pc + 3) L (v :: S) I J Q) : WP Ω (d + 1) K pc L (v4 :: v3 :: v2 :: v1 :: S) I J Q :=
  wp_callS (as := [v1, v2, v3, v4]) hd lk mi rfl rfl hw hC (fun r I' J' h => by obtain ⟨rfl, rfl, rfl⟩ := h; exact k)
theorem wp_cVV4 {q0 ci y idx : Nat} {v1 v2 v3 v4 : Value} {post : MemI → MemJ → Prop} {K' : Mth} (hd : decode K.2.1 pc = .ok (.invokevirtual idx, 3)) (lk : LM K.1.cls idx K') (mi : MIn K' 4) (ha : Ω.1[q0]? = some (0, ci, y)) (hb : Nat.beq q0 1010 = false) (hci : ci < 7) (hc : cNm ci = K'.1.cls) (hw : (S.map fun v => v.category).sum ≤ 8) (hC : CALL Ω d K' [.ref q0, v1, v2, v3, v4] I J (VQ post)) (k : ∀ I' J', post I' J' → WP Ω (d + 1) K (pc + 3) L S I' J' Q) : WP Ω (d + 1) K pc L (v4 :: v3 :: v2 :: v1 :: .ref q0 :: S) I J Q :=
  wp_callV (as := [v1, v2, v3, v4]) hd lk mi ha hb hci hc rfl rfl hw hC (fun r I' J' h => by obtain ⟨rfl, h⟩ := h; exact k I' J' h)
theorem wp_cSV4 {idx : Nat} {v1 v2 v3 v4 : Value} {post : MemI → MemJ → Prop} {K' : Mth} (hd : decode K.2.1 pc = .ok (.invokestatic idx, 3)) (lk : LM K.1.cls idx K') (mi : MSn K' 4) (hw : (S.map fun v => v.category).sum ≤ 8) (hC : CALL Ω d K' [v1, v2, v3, v4] I J (VQ post)) (k : ∀ I' J', post I' J' → WP Ω (d + 1) K (pc + 3) L S I' J' Q) : WP Ω (d + 1) K pc L (v4 :: v3 :: v2 :: v1 :: S) I J Q :=
  wp_callS (as := [v1, v2, v3, v4]) hd lk mi rfl rfl hw hC (fun r I' J' h => by obtain ⟨rfl, h⟩ := h; exact k I' J' h)
theorem wp_cVI4 {q0 ci y idx : Nat} {v1 v2 v3 v4 : Value} {post : Int32 → MemI → MemJ → Prop} {K' : Mth} (hd : decode K.2.1 pc = .ok (.invokevirtual idx, 3)) (lk : LM K.1.cls idx K') (mi : MIn K' 4) (ha : Ω.1[q0]? = some (0, ci, y)) (hb : Nat.beq q0 1010 = false) (hci : ci < 7) (hc : cNm ci = K'.1.cls) (hw : (S.map fun v => v.category).sum ≤ 8) (hC : CALL Ω d K' [.ref q0, v1, v2, v3, v4] I J (IQ post)) (k : ∀ x I' J', post x I' J' → WP Ω (d + 1) K (pc + 3) L (.int x :: S) I' J' Q) : WP Ω (d + 1) K pc L (v4 :: v3 :: v2 :: v1 :: .ref q0 :: S) I J Q :=
  wp_callV (as := [v1, v2, v3, v4]) hd lk mi ha hb hci hc rfl rfl hw hC (fun r I' J' h => by obtain ⟨x, rfl, h⟩ := h; exact k x I' J' h)
theorem wp_cSI4 {idx : Nat} {v1 v2 v3 v4 : Value} {post : Int32 → MemI → MemJ → Prop} {K' : Mth} (hd : decode K.2.1 pc = .ok (.invokestatic idx, 3)) (lk : LM K.1.cls idx K') (mi : MSn K' 4) (hw : (S.map fun v => v.category).sum ≤ 8) (hC : CALL Ω d K' [v1, v2, v3, v4] I J (IQ post)) (k : ∀ x I' J', post x I' J' → WP Ω (d + 1) K (pc + 3) L (.int x :: S) I' J' Q) : WP Ω (d + 1) K pc L (v4 :: v3 :: v2 :: v1 :: S) I J Q :=
  wp_callS (as := [v1, v2, v3, v4]) hd lk mi rfl rfl hw hC (fun r I' J' h => by obtain ⟨x, rfl, h⟩ := h; exact k x I' J' h)
theorem wp_cVP5 {q0 ci y idx : Nat} {v1 v2 v3 v4 v5 : Value} {v : Value} {K' : Mth} (hd : decode K.2.1 pc = .ok (.invokevirtual idx, 3)) (lk : LM K.1.cls idx K') (mi : MIn K' 5) (ha : Ω.1[q0]? = some (0, ci, y)) (hb : Nat.beq q0 1010 = false) (hci : ci < 7) (hc : cNm ci = K'.1.cls) (hw : (S.map fun v => v.category).sum ≤ 8) (hC : CALL Ω d K' [.ref q0, v1, v2, v3, v4, v5] I J (PQ v I J)) (k : WP Ω (d + 1) K (pc + 3) L (v :: S) I J Q) : WP Ω (d + 1) K pc L (v5 :: v4 :: v3 :: v2 :: v1 :: .ref q0 :: S) I J Q :=
  wp_callV (as := [v1, v2, v3, v4, v5]) hd lk mi ha hb hci hc rfl rfl hw hC (fun r I' J' h => by obtain ⟨rfl, rfl, rfl⟩ := h; exact k)
theorem wp_cSP5 {idx : Nat} {v1 v2 v3 v4 v5 : Value} {v : Value} {K' : Mth} (hd : decode K.2.1 pc = .ok (.invokestatic idx, 3)) (lk : LM K.1.cls idx K') (mi : MSn K' 5) (hw : (S.map fun v => v.category).sum ≤ 8) (hC : CALL Ω d K' [v1, v2, v3, v4, v5] I J (PQ v I J)) (k : WP Ω (d + 1) K (pc + 3) L (v :: S) I J Q) : WP Ω (d + 1) K pc L (v5 :: v4 :: v3 :: v2 :: v1 :: S) I J Q :=
  wp_callS (as := [v1, v2, v3, v4, v5]) hd lk mi rfl rfl hw hC (fun r I' J' h => by obtain ⟨rfl, rfl, rfl⟩ := h; exact k)
theorem wp_cVV5 {q0 ci y idx : Nat} {v1 v2 v3 v4 v5 : Value} {post : MemI → MemJ → Prop} {K' : Mth} (hd : decode K.2.1 pc = .ok (.invokevirtual idx, 3)) (lk : LM K.1.cls idx K') (mi : MIn K' 5) (ha : Ω.1[q0]? = some (0, ci, y)) (hb : Nat.beq q0 1010 = false) (hci : ci < 7) (hc : cNm ci = K'.1.cls) (hw : (S.map fun v => v.category).sum ≤ 8) (hC : CALL Ω d K' [.ref q0, v1, v2, v3, v4, v5] I J (VQ post)) (k : ∀ I' J', post I' J' → WP Ω (d + 1) K (pc + 3) L S I' J' Q) : WP Ω (d + 1) K pc L (v5 :: v4 :: v3 :: v2 :: v1 :: .ref q0 :: S) I J Q :=
  wp_callV (as := [v1, v2, v3, v4, v5]) hd lk mi ha hb hci hc rfl rfl hw hC (fun r I' J' h => by obtain ⟨rfl, h⟩ := h; exact k I' J' h)
theorem wp_cSV5 {idx : Nat} {v1 v2 v3 v4 v5 : Value} {post : MemI → MemJ → Prop} {K' : Mth} (hd : decode K.2.1 pc = .ok (.invokestatic idx, 3)) (lk : LM K.1.cls idx K') (mi : MSn K' 5) (hw : (S.map fun v => v.category).sum ≤ 8) (hC : CALL Ω d K' [v1, v2, v3, v4, v5] I J (VQ post)) (k : ∀ I' J', post I' J' → WP Ω (d + 1) K (pc + 3) L S I' J' Q) : WP Ω (d + 1) K pc L (v5 :: v4 :: v3 :: v2 :: v1 :: S) I J Q :=
  wp_callS (as := [v1, v2, v3, v4, v5]) hd lk mi rfl rfl hw hC (fun r I' J' h => by obtain ⟨rfl, h⟩ := h; exact k I' J' h)
theorem wp_cVI5 {q0 ci y idx : Nat} {v1 v2 v3 v4 v5 : Value} {post : Int32 → MemI → MemJ → Prop} {K' : Mth} (hd : decode K.2.1 pc = .ok (.invokevirtual idx, 3)) (lk : LM K.1.cls idx K') (mi : MIn K' 5) (ha : Ω.1[q0]? = some (0, ci, y)) (hb : Nat.beq q0 1010 = false) (hci : ci < 7) (hc : cNm ci = K'.1.cls) (hw : (S.map fun v => v.category).sum ≤ 8) (hC : CALL Ω d K' [.ref q0, v1, v2, v3, v4, v5] I J (IQ post)) (k : ∀ x I' J', post x I' J' → WP Ω (d + 1) K (pc + 3) L (.int x :: S) I' J' Q) : WP Ω (d + 1) K pc L (v5 :: v4 :: v3 :: v2 :: v1 :: .ref q0 :: S) I J Q :=
  wp_callV (as := [v1, v2, v3, v4, v5]) hd lk mi ha hb hci hc rfl rfl hw hC (fun r I' J' h => by obtain ⟨x, rfl, h⟩ := h; exact k x I' J' h)
theorem wp_cSI5 {idx : Nat} {v1 v2 v3 v4 v5 : Value} {post : Int32 → MemI → MemJ → Prop} {K' : Mth} (hd : decode K.2.1 pc = .ok (.invokestatic idx, 3)) (lk : LM K.1.cls idx K') (mi : MSn K' 5) (hw : (S.map fun v => v.category).sum ≤ 8) (hC : CALL Ω d K' [v1, v2, v3, v4, v5] I J (IQ post)) (k : ∀ x I' J', post x I' J' → WP Ω (d + 1) K (pc + 3) L (.int x :: S) I' J' Q) : WP Ω (d + 1) K pc L (v5 :: v4 :: v3 :: v2 :: v1 :: S) I J Q :=
  wp_callS (as := [v1, v2, v3, v4, v5]) hd lk mi rfl rfl hw hC (fun r I' J' h => by obtain ⟨x, rfl, h⟩ := h; exact k x I' J' h)
theorem wp_dia_icmp_eq {x y : Int32} (hd : decode K.2.1 pc = .ok (.if_icmp .eq 7, 3)) (h1 : decode K.2.1 (pc + 3) = .ok (.iconst 1, 1)) (h2 : decode K.2.1 (pc + 4) = .ok (.goto 4, 3)) (h3 : decode K.2.1 (pc + 7) = .ok (.iconst 0, 1)) (k : WP Ω d K (pc + 8) L (.int (bI (decide (¬ x = y))) :: S) I J Q) : WP Ω d K pc L (.int y :: .int x :: S) I J Q :=
  wp_icmp_eq hd (tgt := pc + 7) (by omega) (fun h => wp_iconst (pc := pc + 7) h3 (v := nI 0) (by decide +kernel) (by rw [show (decide (¬ x = y)) = false from decide_eq_false (fun z => z h)] at k; exact k)) (fun h => wp_iconst (pc := pc + 3) h1 (v := nI 1) (by decide +kernel) (wp_goto (pc := pc + 4) (tgt := pc + 8) h2 (by omega) (by rw [show (decide (¬ x = y)) = true from decide_eq_true (h)] at k; exact k)))
theorem wp_dia_icmp_eqN {a b : Nat} (hd : decode K.2.1 pc = .ok (.if_icmp .eq 7, 3)) (h1 : decode K.2.1 (pc + 3) = .ok (.iconst 1, 1)) (h2 : decode K.2.1 (pc + 4) = .ok (.goto 4, 3)) (h3 : decode K.2.1 (pc + 7) = .ok (.iconst 0, 1)) (ha : a < 2147483648) (hb : b < 2147483648) (k : WP Ω d K (pc + 8) L (.int (bI (decide (¬ a = b))) :: S) I J Q) : WP Ω d K pc L (.int (nI b) :: .int (nI a) :: S) I J Q :=
  wp_icmp_eqN hd (tgt := pc + 7) (by omega) ha hb (fun h => wp_iconst (pc := pc + 7) h3 (v := nI 0) (by decide +kernel) (by rw [show (decide (¬ a = b)) = false from decide_eq_false (by omega)] at k; exact k)) (fun h => wp_iconst (pc := pc + 3) h1 (v := nI 1) (by decide +kernel) (wp_goto (pc := pc + 4) (tgt := pc + 8) h2 (by omega) (by rw [show (decide (¬ a = b)) = true from decide_eq_true (by omega)] at k; exact k)))
theorem wp_dia_if_eq {x : Int32} (hd : decode K.2.1 pc = .ok (.ifCond .eq 7, 3)) (h1 : decode K.2.1 (pc + 3) = .ok (.iconst 1, 1)) (h2 : decode K.2.1 (pc + 4) = .ok (.goto 4, 3)) (h3 : decode K.2.1 (pc + 7) = .ok (.iconst 0, 1)) (k : WP Ω d K (pc + 8) L (.int (bI (decide (¬ x = 0))) :: S) I J Q) : WP Ω d K pc L (.int x :: S) I J Q :=
  wp_if_eq hd (tgt := pc + 7) (by omega) (fun h => wp_iconst (pc := pc + 7) h3 (v := nI 0) (by decide +kernel) (by rw [show (decide (¬ x = 0)) = false from decide_eq_false (fun z => z h)] at k; exact k)) (fun h => wp_iconst (pc := pc + 3) h1 (v := nI 1) (by decide +kernel) (wp_goto (pc := pc + 4) (tgt := pc + 8) h2 (by omega) (by rw [show (decide (¬ x = 0)) = true from decide_eq_true (h)] at k; exact k)))
theorem wp_dia_if_eqB {b : Bool} (hd : decode K.2.1 pc = .ok (.ifCond .eq 7, 3)) (h1 : decode K.2.1 (pc + 3) = .ok (.iconst 1, 1)) (h2 : decode K.2.1 (pc + 4) = .ok (.goto 4, 3)) (h3 : decode K.2.1 (pc + 7) = .ok (.iconst 0, 1)) (k : WP Ω d K (pc + 8) L (.int (bI b) :: S) I J Q) : WP Ω d K pc L (.int (bI b) :: S) I J Q :=
  wp_if_eqB hd (tgt := pc + 7) (by omega) (fun h => wp_iconst (pc := pc + 7) h3 (v := nI 0) (by decide +kernel) (by rw [show b = false from by simp [h]] at k; exact k)) (fun h => wp_iconst (pc := pc + 3) h1 (v := nI 1) (by decide +kernel) (wp_goto (pc := pc + 4) (tgt := pc + 8) h2 (by omega) (by rw [show b = true from by simp [h]] at k; exact k)))
theorem wp_dia_icmp_ne {x y : Int32} (hd : decode K.2.1 pc = .ok (.if_icmp .ne 7, 3)) (h1 : decode K.2.1 (pc + 3) = .ok (.iconst 1, 1)) (h2 : decode K.2.1 (pc + 4) = .ok (.goto 4, 3)) (h3 : decode K.2.1 (pc + 7) = .ok (.iconst 0, 1)) (k : WP Ω d K (pc + 8) L (.int (bI (decide (x = y))) :: S) I J Q) : WP Ω d K pc L (.int y :: .int x :: S) I J Q :=
  wp_icmp_ne hd (tgt := pc + 7) (by omega) (fun h => wp_iconst (pc := pc + 7) h3 (v := nI 0) (by decide +kernel) (by rw [show (decide (x = y)) = false from decide_eq_false (fun z => h z)] at k; exact k)) (fun h => wp_iconst (pc := pc + 3) h1 (v := nI 1) (by decide +kernel) (wp_goto (pc := pc + 4) (tgt := pc + 8) h2 (by omega) (by rw [show (decide (x = y)) = true from decide_eq_true (h)] at k; exact k)))
theorem wp_dia_icmp_neN {a b : Nat} (hd : decode K.2.1 pc = .ok (.if_icmp .ne 7, 3)) (h1 : decode K.2.1 (pc + 3) = .ok (.iconst 1, 1)) (h2 : decode K.2.1 (pc + 4) = .ok (.goto 4, 3)) (h3 : decode K.2.1 (pc + 7) = .ok (.iconst 0, 1)) (ha : a < 2147483648) (hb : b < 2147483648) (k : WP Ω d K (pc + 8) L (.int (bI (decide (a = b))) :: S) I J Q) : WP Ω d K pc L (.int (nI b) :: .int (nI a) :: S) I J Q :=
  wp_icmp_neN hd (tgt := pc + 7) (by omega) ha hb (fun h => wp_iconst (pc := pc + 7) h3 (v := nI 0) (by decide +kernel) (by rw [show (decide (a = b)) = false from decide_eq_false (by omega)] at k; exact k)) (fun h => wp_iconst (pc := pc + 3) h1 (v := nI 1) (by decide +kernel) (wp_goto (pc := pc + 4) (tgt := pc + 8) h2 (by omega) (by rw [show (decide (a = b)) = true from decide_eq_true (by omega)] at k; exact k)))
theorem wp_dia_if_ne {x : Int32} (hd : decode K.2.1 pc = .ok (.ifCond .ne 7, 3)) (h1 : decode K.2.1 (pc + 3) = .ok (.iconst 1, 1)) (h2 : decode K.2.1 (pc + 4) = .ok (.goto 4, 3)) (h3 : decode K.2.1 (pc + 7) = .ok (.iconst 0, 1)) (k : WP Ω d K (pc + 8) L (.int (bI (decide (x = 0))) :: S) I J Q) : WP Ω d K pc L (.int x :: S) I J Q :=
  wp_if_ne hd (tgt := pc + 7) (by omega) (fun h => wp_iconst (pc := pc + 7) h3 (v := nI 0) (by decide +kernel) (by rw [show (decide (x = 0)) = false from decide_eq_false (fun z => h z)] at k; exact k)) (fun h => wp_iconst (pc := pc + 3) h1 (v := nI 1) (by decide +kernel) (wp_goto (pc := pc + 4) (tgt := pc + 8) h2 (by omega) (by rw [show (decide (x = 0)) = true from decide_eq_true (h)] at k; exact k)))
theorem wp_dia_if_neB {b : Bool} (hd : decode K.2.1 pc = .ok (.ifCond .ne 7, 3)) (h1 : decode K.2.1 (pc + 3) = .ok (.iconst 1, 1)) (h2 : decode K.2.1 (pc + 4) = .ok (.goto 4, 3)) (h3 : decode K.2.1 (pc + 7) = .ok (.iconst 0, 1)) (k : WP Ω d K (pc + 8) L (.int (bI (!b)) :: S) I J Q) : WP Ω d K pc L (.int (bI b) :: S) I J Q :=
  wp_if_neB hd (tgt := pc + 7) (by omega) (fun h => wp_iconst (pc := pc + 7) h3 (v := nI 0) (by decide +kernel) (by rw [show (!b) = false from by simp [h]] at k; exact k)) (fun h => wp_iconst (pc := pc + 3) h1 (v := nI 1) (by decide +kernel) (wp_goto (pc := pc + 4) (tgt := pc + 8) h2 (by omega) (by rw [show (!b) = true from by simp [h]] at k; exact k)))
theorem wp_dia_icmp_lt {x y : Int32} (hd : decode K.2.1 pc = .ok (.if_icmp .lt 7, 3)) (h1 : decode K.2.1 (pc + 3) = .ok (.iconst 1, 1)) (h2 : decode K.2.1 (pc + 4) = .ok (.goto 4, 3)) (h3 : decode K.2.1 (pc + 7) = .ok (.iconst 0, 1)) (k : WP Ω d K (pc + 8) L (.int (bI (decide (¬ x < y))) :: S) I J Q) : WP Ω d K pc L (.int y :: .int x :: S) I J Q :=
  wp_icmp_lt hd (tgt := pc + 7) (by omega) (fun h => wp_iconst (pc := pc + 7) h3 (v := nI 0) (by decide +kernel) (by rw [show (decide (¬ x < y)) = false from decide_eq_false (fun z => z h)] at k; exact k)) (fun h => wp_iconst (pc := pc + 3) h1 (v := nI 1) (by decide +kernel) (wp_goto (pc := pc + 4) (tgt := pc + 8) h2 (by omega) (by rw [show (decide (¬ x < y)) = true from decide_eq_true (h)] at k; exact k)))
theorem wp_dia_icmp_ltN {a b : Nat} (hd : decode K.2.1 pc = .ok (.if_icmp .lt 7, 3)) (h1 : decode K.2.1 (pc + 3) = .ok (.iconst 1, 1)) (h2 : decode K.2.1 (pc + 4) = .ok (.goto 4, 3)) (h3 : decode K.2.1 (pc + 7) = .ok (.iconst 0, 1)) (ha : a < 2147483648) (hb : b < 2147483648) (k : WP Ω d K (pc + 8) L (.int (bI (decide (¬ a < b))) :: S) I J Q) : WP Ω d K pc L (.int (nI b) :: .int (nI a) :: S) I J Q :=
  wp_icmp_ltN hd (tgt := pc + 7) (by omega) ha hb (fun h => wp_iconst (pc := pc + 7) h3 (v := nI 0) (by decide +kernel) (by rw [show (decide (¬ a < b)) = false from decide_eq_false (by omega)] at k; exact k)) (fun h => wp_iconst (pc := pc + 3) h1 (v := nI 1) (by decide +kernel) (wp_goto (pc := pc + 4) (tgt := pc + 8) h2 (by omega) (by rw [show (decide (¬ a < b)) = true from decide_eq_true (by omega)] at k; exact k)))
theorem wp_dia_icmp_ge {x y : Int32} (hd : decode K.2.1 pc = .ok (.if_icmp .ge 7, 3)) (h1 : decode K.2.1 (pc + 3) = .ok (.iconst 1, 1)) (h2 : decode K.2.1 (pc + 4) = .ok (.goto 4, 3)) (h3 : decode K.2.1 (pc + 7) = .ok (.iconst 0, 1)) (k : WP Ω d K (pc + 8) L (.int (bI (decide (x < y))) :: S) I J Q) : WP Ω d K pc L (.int y :: .int x :: S) I J Q :=
  wp_icmp_ge hd (tgt := pc + 7) (by omega) (fun h => wp_iconst (pc := pc + 7) h3 (v := nI 0) (by decide +kernel) (by rw [show (decide (x < y)) = false from decide_eq_false (fun z => (Int32.not_le.mpr z) h)] at k; exact k)) (fun h => wp_iconst (pc := pc + 3) h1 (v := nI 1) (by decide +kernel) (wp_goto (pc := pc + 4) (tgt := pc + 8) h2 (by omega) (by rw [show (decide (x < y)) = true from decide_eq_true (Int32.not_le.mp h)] at k; exact k)))
theorem wp_dia_icmp_geN {a b : Nat} (hd : decode K.2.1 pc = .ok (.if_icmp .ge 7, 3)) (h1 : decode K.2.1 (pc + 3) = .ok (.iconst 1, 1)) (h2 : decode K.2.1 (pc + 4) = .ok (.goto 4, 3)) (h3 : decode K.2.1 (pc + 7) = .ok (.iconst 0, 1)) (ha : a < 2147483648) (hb : b < 2147483648) (k : WP Ω d K (pc + 8) L (.int (bI (decide (a < b))) :: S) I J Q) : WP Ω d K pc L (.int (nI b) :: .int (nI a) :: S) I J Q :=
  wp_icmp_geN hd (tgt := pc + 7) (by omega) ha hb (fun h => wp_iconst (pc := pc + 7) h3 (v := nI 0) (by decide +kernel) (by rw [show (decide (a < b)) = false from decide_eq_false (by omega)] at k; exact k)) (fun h => wp_iconst (pc := pc + 3) h1 (v := nI 1) (by decide +kernel) (wp_goto (pc := pc + 4) (tgt := pc + 8) h2 (by omega) (by rw [show (decide (a < b)) = true from decide_eq_true (by omega)] at k; exact k)))
theorem wp_dia_icmp_gt {x y : Int32} (hd : decode K.2.1 pc = .ok (.if_icmp .gt 7, 3)) (h1 : decode K.2.1 (pc + 3) = .ok (.iconst 1, 1)) (h2 : decode K.2.1 (pc + 4) = .ok (.goto 4, 3)) (h3 : decode K.2.1 (pc + 7) = .ok (.iconst 0, 1)) (k : WP Ω d K (pc + 8) L (.int (bI (decide (x ≤ y))) :: S) I J Q) : WP Ω d K pc L (.int y :: .int x :: S) I J Q :=
  wp_icmp_gt hd (tgt := pc + 7) (by omega) (fun h => wp_iconst (pc := pc + 7) h3 (v := nI 0) (by decide +kernel) (by rw [show (decide (x ≤ y)) = false from decide_eq_false (fun z => (Int32.not_lt.mpr z) h)] at k; exact k)) (fun h => wp_iconst (pc := pc + 3) h1 (v := nI 1) (by decide +kernel) (wp_goto (pc := pc + 4) (tgt := pc + 8) h2 (by omega) (by rw [show (decide (x ≤ y)) = true from decide_eq_true (Int32.not_lt.mp h)] at k; exact k)))
theorem wp_dia_icmp_gtN {a b : Nat} (hd : decode K.2.1 pc = .ok (.if_icmp .gt 7, 3)) (h1 : decode K.2.1 (pc + 3) = .ok (.iconst 1, 1)) (h2 : decode K.2.1 (pc + 4) = .ok (.goto 4, 3)) (h3 : decode K.2.1 (pc + 7) = .ok (.iconst 0, 1)) (ha : a < 2147483648) (hb : b < 2147483648) (k : WP Ω d K (pc + 8) L (.int (bI (decide (a ≤ b))) :: S) I J Q) : WP Ω d K pc L (.int (nI b) :: .int (nI a) :: S) I J Q :=
  wp_icmp_gtN hd (tgt := pc + 7) (by omega) ha hb (fun h => wp_iconst (pc := pc + 7) h3 (v := nI 0) (by decide +kernel) (by rw [show (decide (a ≤ b)) = false from decide_eq_false (by omega)] at k; exact k)) (fun h => wp_iconst (pc := pc + 3) h1 (v := nI 1) (by decide +kernel) (wp_goto (pc := pc + 4) (tgt := pc + 8) h2 (by omega) (by rw [show (decide (a ≤ b)) = true from decide_eq_true (by omega)] at k; exact k)))
theorem wp_dia_icmp_le {x y : Int32} (hd : decode K.2.1 pc = .ok (.if_icmp .le 7, 3)) (h1 : decode K.2.1 (pc + 3) = .ok (.iconst 1, 1)) (h2 : decode K.2.1 (pc + 4) = .ok (.goto 4, 3)) (h3 : decode K.2.1 (pc + 7) = .ok (.iconst 0, 1)) (k : WP Ω d K (pc + 8) L (.int (bI (decide (y < x))) :: S) I J Q) : WP Ω d K pc L (.int y :: .int x :: S) I J Q :=
  wp_icmp_le hd (tgt := pc + 7) (by omega) (fun h => wp_iconst (pc := pc + 7) h3 (v := nI 0) (by decide +kernel) (by rw [show (decide (y < x)) = false from decide_eq_false (fun z => (Int32.not_lt.mpr h) z)] at k; exact k)) (fun h => wp_iconst (pc := pc + 3) h1 (v := nI 1) (by decide +kernel) (wp_goto (pc := pc + 4) (tgt := pc + 8) h2 (by omega) (by rw [show (decide (y < x)) = true from decide_eq_true (Int32.not_le.mp h)] at k; exact k)))
theorem wp_dia_icmp_leN {a b : Nat} (hd : decode K.2.1 pc = .ok (.if_icmp .le 7, 3)) (h1 : decode K.2.1 (pc + 3) = .ok (.iconst 1, 1)) (h2 : decode K.2.1 (pc + 4) = .ok (.goto 4, 3)) (h3 : decode K.2.1 (pc + 7) = .ok (.iconst 0, 1)) (ha : a < 2147483648) (hb : b < 2147483648) (k : WP Ω d K (pc + 8) L (.int (bI (decide (b < a))) :: S) I J Q) : WP Ω d K pc L (.int (nI b) :: .int (nI a) :: S) I J Q :=
  wp_icmp_leN hd (tgt := pc + 7) (by omega) ha hb (fun h => wp_iconst (pc := pc + 7) h3 (v := nI 0) (by decide +kernel) (by rw [show (decide (b < a)) = false from decide_eq_false (by omega)] at k; exact k)) (fun h => wp_iconst (pc := pc + 3) h1 (v := nI 1) (by decide +kernel) (wp_goto (pc := pc + 4) (tgt := pc + 8) h2 (by omega) (by rw [show (decide (b < a)) = true from decide_eq_true (by omega)] at k; exact k)))
theorem wp_lshlN {a k : Nat} (hd : decode K.2.1 pc = .ok (.lshl, 1)) (hk : k < 64) (kk : WP Ω d K (pc + 1) L (.long (lN (a * 2 ^ k)) :: S) I J Q) : WP Ω d K pc L (.int (nI k) :: .long (lN a) :: S) I J Q :=
  wp_lshl hd (by rw [wb_shl a hk]; exact kk)
theorem wp_lushrN {a k : Nat} (hd : decode K.2.1 pc = .ok (.lushr, 1)) (ha : a < 18446744073709551616) (hk : k < 64) (kk : WP Ω d K (pc + 1) L (.long (lN (a / 2 ^ k)) :: S) I J Q) : WP Ω d K pc L (.int (nI k) :: .long (lN a) :: S) I J Q :=
  wp_lushr hd (by rw [wb_shr ha hk]; exact kk)
theorem wp_landN {a b : Nat} (hd : decode K.2.1 pc = .ok (.land, 1)) (ha : a < 18446744073709551616) (hb : b < 18446744073709551616) (kk : WP Ω d K (pc + 1) L (.long (lN (a &&& b)) :: S) I J Q) : WP Ω d K pc L (.long (lN b) :: .long (lN a) :: S) I J Q :=
  wp_land hd (by rw [wb_and ha hb]; exact kk)
theorem wp_lorN {a b : Nat} (hd : decode K.2.1 pc = .ok (.lor, 1)) (ha : a < 18446744073709551616) (hb : b < 18446744073709551616) (kk : WP Ω d K (pc + 1) L (.long (lN (a ||| b)) :: S) I J Q) : WP Ω d K pc L (.long (lN b) :: .long (lN a) :: S) I J Q :=
  wp_lor hd (by rw [wb_or ha hb]; exact kk)
theorem wp_lxorN {a b : Nat} (hd : decode K.2.1 pc = .ok (.lxor, 1)) (kk : WP Ω d K (pc + 1) L (.long (lN (a ^^^ b)) :: S) I J Q) : WP Ω d K pc L (.long (lN b) :: .long (lN a) :: S) I J Q :=
  wp_lxor hd (by rw [lN_xor]; exact kk)
theorem wp_lsubN {a b : Nat} (hd : decode K.2.1 pc = .ok (.lsub, 1)) (h : b ≤ a) (kk : WP Ω d K (pc + 1) L (.long (lN (a - b)) :: S) I J Q) : WP Ω d K pc L (.long (lN b) :: .long (lN a) :: S) I J Q :=
  wp_lsub hd (by rw [lN_sub h]; exact kk)
theorem wp_laddN {a b : Nat} (hd : decode K.2.1 pc = .ok (.ladd, 1)) (kk : WP Ω d K (pc + 1) L (.long (lN (a + b)) :: S) I J Q) : WP Ω d K pc L (.long (lN b) :: .long (lN a) :: S) I J Q :=
  wp_ladd hd (by rw [lN_add]; exact kk)
theorem wp_iushrN {a k : Nat} (hd : decode K.2.1 pc = .ok (.iushr, 1)) (ha : a < 4294967296) (hk : k < 32) (kk : WP Ω d K (pc + 1) L (.int (nI (a / 2 ^ k)) :: S) I J Q) : WP Ω d K pc L (.int (nI k) :: .int (nI a) :: S) I J Q :=
  wp_iushr hd (by rw [pk_ushrN ha (nI k) k (nf_sl k hk)]; exact kk)
end NRW
end
section
/-! methods, words, links -/
def kX0_shape : Mth := (yX0_shape, cX0_shape, 6, none)
theorem m_X0_shape : MIn kX0_shape 3 := ⟨⟨⟨by decide +kernel, by decide +kernel, by decide +kernel⟩, tb_in 218 (by decide +kernel), tb_in 49 (by decide +kernel), Nat.le_of_ble_eq_true rfl⟩, tb_in 216 (by decide +kernel), tb_in 217 (by decide +kernel)⟩
def kX0_surround : Mth := (yX0_surround, cX0_surround, 8, none)
theorem m_X0_surround : MIn kX0_surround 3 := ⟨⟨⟨by decide +kernel, by decide +kernel, by decide +kernel⟩, tb_in 222 (by decide +kernel), tb_in 49 (by decide +kernel), Nat.le_of_ble_eq_true rfl⟩, tb_in 221 (by decide +kernel), tb_in 0 (by decide +kernel)⟩
def kX5_at : Mth := (yX5_at, cX5_at, 2, (some .int))
theorem m_X5_at : MSn kX5_at 2 := ⟨⟨⟨by decide +kernel, by decide +kernel, by decide +kernel⟩, tb_in 227 (by decide +kernel), tb_in 47 (by decide +kernel), Nat.le_of_ble_eq_true rfl⟩, tb_in 226 (by decide +kernel)⟩
def kX0_cellAt : Mth := (yX0_cellAt, cX0_cellAt, 4, (some .int))
theorem m_X0_cellAt : MIn kX0_cellAt 2 := ⟨⟨⟨by decide +kernel, by decide +kernel, by decide +kernel⟩, tb_in 233 (by decide +kernel), tb_in 49 (by decide +kernel), Nat.le_of_ble_eq_true rfl⟩, tb_in 232 (by decide +kernel), tb_in 1 (by decide +kernel)⟩
def kX5_lay : Mth := (yX5_lay, cX5_lay, 3, none)
theorem m_X5_lay : MSn kX5_lay 3 := ⟨⟨⟨by decide +kernel, by decide +kernel, by decide +kernel⟩, tb_in 236 (by decide +kernel), tb_in 47 (by decide +kernel), Nat.le_of_ble_eq_true rfl⟩, tb_in 235 (by decide +kernel)⟩
def kX0_bitOf : Mth := (yX0_bitOf, cX0_bitOf, 1, (some .int))
theorem m_X0_bitOf : MSn kX0_bitOf 1 := ⟨⟨⟨by decide +kernel, by decide +kernel, by decide +kernel⟩, tb_in 239 (by decide +kernel), tb_in 49 (by decide +kernel), Nat.le_of_ble_eq_true rfl⟩, tb_in 238 (by decide +kernel)⟩
def kX0_lookAhead : Mth := (yX0_lookAhead, cX0_lookAhead, 4, none)
theorem m_X0_lookAhead : MIn kX0_lookAhead 3 := ⟨⟨⟨by decide +kernel, by decide +kernel, by decide +kernel⟩, tb_in 247 (by decide +kernel), tb_in 49 (by decide +kernel), Nat.le_of_ble_eq_true rfl⟩, tb_in 246 (by decide +kernel), tb_in 2 (by decide +kernel)⟩
def kX5_write : Mth := (yX5_write, cX5_write, 4, (some .int))
theorem m_X5_write : MIn kX5_write 2 := ⟨⟨⟨by decide +kernel, by decide +kernel, by decide +kernel⟩, tb_in 276 (by decide +kernel), tb_in 47 (by decide +kernel), Nat.le_of_ble_eq_true rfl⟩, tb_in 274 (by decide +kernel), tb_in 275 (by decide +kernel)⟩
def kX4_add : Mth := (yX4_add, cX4_add, 5, none)
theorem m_X4_add : MIn kX4_add 2 := ⟨⟨⟨by decide +kernel, by decide +kernel, by decide +kernel⟩, tb_in 280 (by decide +kernel), tb_in 48 (by decide +kernel), Nat.le_of_ble_eq_true rfl⟩, tb_in 278 (by decide +kernel), tb_in 279 (by decide +kernel)⟩
def kX5_wipe : Mth := (yX5_wipe, cX5_wipe, 2, (some .int))
theorem m_X5_wipe : MIn kX5_wipe 0 := ⟨⟨⟨by decide +kernel, by decide +kernel, by decide +kernel⟩, tb_in 284 (by decide +kernel), tb_in 47 (by decide +kernel), Nat.le_of_ble_eq_true rfl⟩, tb_in 282 (by decide +kernel), tb_in 283 (by decide +kernel)⟩
def kX5_fault : Mth := (yX5_fault, cX5_fault, 1, (some .int))
theorem m_X5_fault : MIn kX5_fault 0 := ⟨⟨⟨by decide +kernel, by decide +kernel, by decide +kernel⟩, tb_in 288 (by decide +kernel), tb_in 47 (by decide +kernel), Nat.le_of_ble_eq_true rfl⟩, tb_in 286 (by decide +kernel), tb_in 287 (by decide +kernel)⟩
def kX4_firstFault : Mth := (yX4_firstFault, cX4_firstFault, 2, (some .int))
theorem m_X4_firstFault : MIn kX4_firstFault 0 := ⟨⟨⟨by decide +kernel, by decide +kernel, by decide +kernel⟩, tb_in 292 (by decide +kernel), tb_in 48 (by decide +kernel), Nat.le_of_ble_eq_true rfl⟩, tb_in 290 (by decide +kernel), tb_in 291 (by decide +kernel)⟩
def kX4_fits : Mth := (yX4_fits, cX4_fits, 3, (some .boolean))
theorem m_X4_fits : MIn kX4_fits 1 := ⟨⟨⟨by decide +kernel, by decide +kernel, by decide +kernel⟩, tb_in 296 (by decide +kernel), tb_in 48 (by decide +kernel), Nat.le_of_ble_eq_true rfl⟩, tb_in 295 (by decide +kernel), tb_in 3 (by decide +kernel)⟩
def kX4_byteAt : Mth := (yX4_byteAt, cX4_byteAt, 2, (some .int))
theorem m_X4_byteAt : MIn kX4_byteAt 1 := ⟨⟨⟨by decide +kernel, by decide +kernel, by decide +kernel⟩, tb_in 300 (by decide +kernel), tb_in 48 (by decide +kernel), Nat.le_of_ble_eq_true rfl⟩, tb_in 299 (by decide +kernel), tb_in 4 (by decide +kernel)⟩
def kX4_end : Mth := (yX4_end, cX4_end, 1, (some .int))
theorem m_X4_end : MIn kX4_end 0 := ⟨⟨⟨by decide +kernel, by decide +kernel, by decide +kernel⟩, tb_in 304 (by decide +kernel), tb_in 48 (by decide +kernel), Nat.le_of_ble_eq_true rfl⟩, tb_in 303 (by decide +kernel), tb_in 5 (by decide +kernel)⟩
def kX4_width : Mth := (yX4_width, cX4_width, 1, (some .int))
theorem m_X4_width : MIn kX4_width 0 := ⟨⟨⟨by decide +kernel, by decide +kernel, by decide +kernel⟩, tb_in 308 (by decide +kernel), tb_in 48 (by decide +kernel), Nat.le_of_ble_eq_true rfl⟩, tb_in 306 (by decide +kernel), tb_in 307 (by decide +kernel)⟩
def kX4_figure : Mth := (yX4_figure, cX4_figure, 2, (some .int))
theorem m_X4_figure : MIn kX4_figure 1 := ⟨⟨⟨by decide +kernel, by decide +kernel, by decide +kernel⟩, tb_in 312 (by decide +kernel), tb_in 48 (by decide +kernel), Nat.le_of_ble_eq_true rfl⟩, tb_in 311 (by decide +kernel), tb_in 6 (by decide +kernel)⟩
def kX4_height : Mth := (yX4_height, cX4_height, 1, (some .int))
theorem m_X4_height : MIn kX4_height 0 := ⟨⟨⟨by decide +kernel, by decide +kernel, by decide +kernel⟩, tb_in 316 (by decide +kernel), tb_in 48 (by decide +kernel), Nat.le_of_ble_eq_true rfl⟩, tb_in 314 (by decide +kernel), tb_in 315 (by decide +kernel)⟩
def kX4_signOf : Mth := (yX4_signOf, cX4_signOf, 2, (some .int))
theorem m_X4_signOf : MIn kX4_signOf 1 := ⟨⟨⟨by decide +kernel, by decide +kernel, by decide +kernel⟩, tb_in 320 (by decide +kernel), tb_in 48 (by decide +kernel), Nat.le_of_ble_eq_true rfl⟩, tb_in 318 (by decide +kernel), tb_in 319 (by decide +kernel)⟩
def kX5_board : Mth := (yX5_board, cX5_board, 2, (some .int))
theorem m_X5_board : MIn kX5_board 0 := ⟨⟨⟨by decide +kernel, by decide +kernel, by decide +kernel⟩, tb_in 411 (by decide +kernel), tb_in 47 (by decide +kernel), Nat.le_of_ble_eq_true rfl⟩, tb_in 409 (by decide +kernel), tb_in 410 (by decide +kernel)⟩
def kX4_last : Mth := (yX4_last, cX4_last, 1, (some .int))
theorem m_X4_last : MIn kX4_last 0 := ⟨⟨⟨by decide +kernel, by decide +kernel, by decide +kernel⟩, tb_in 417 (by decide +kernel), tb_in 48 (by decide +kernel), Nat.le_of_ble_eq_true rfl⟩, tb_in 415 (by decide +kernel), tb_in 416 (by decide +kernel)⟩
def kX2_clear : Mth := (yX2_clear, cX2_clear, 1, none)
theorem m_X2_clear : MIn kX2_clear 0 := ⟨⟨⟨by decide +kernel, by decide +kernel, by decide +kernel⟩, tb_in 421 (by decide +kernel), tb_in 50 (by decide +kernel), Nat.le_of_ble_eq_true rfl⟩, tb_in 419 (by decide +kernel), tb_in 420 (by decide +kernel)⟩
def kX2_set : Mth := (yX2_set, cX2_set, 8, none)
theorem m_X2_set : MIn kX2_set 4 := ⟨⟨⟨by decide +kernel, by decide +kernel, by decide +kernel⟩, tb_in 425 (by decide +kernel), tb_in 50 (by decide +kernel), Nat.le_of_ble_eq_true rfl⟩, tb_in 423 (by decide +kernel), tb_in 424 (by decide +kernel)⟩
def kX2_nibble : Mth := (yX2_nibble, cX2_nibble, 3, (some .int))
theorem m_X2_nibble : MSn kX2_nibble 2 := ⟨⟨⟨by decide +kernel, by decide +kernel, by decide +kernel⟩, tb_in 428 (by decide +kernel), tb_in 50 (by decide +kernel), Nat.le_of_ble_eq_true rfl⟩, tb_in 427 (by decide +kernel)⟩
def kX2_put : Mth := (yX2_put, cX2_put, 5, none)
theorem m_X2_put : MIn kX2_put 2 := ⟨⟨⟨by decide +kernel, by decide +kernel, by decide +kernel⟩, tb_in 432 (by decide +kernel), tb_in 50 (by decide +kernel), Nat.le_of_ble_eq_true rfl⟩, tb_in 430 (by decide +kernel), tb_in 431 (by decide +kernel)⟩
def kX5_sideOf : Mth := (yX5_sideOf, cX5_sideOf, 1, (some .int))
theorem m_X5_sideOf : MSn kX5_sideOf 1 := ⟨⟨⟨by decide +kernel, by decide +kernel, by decide +kernel⟩, tb_in 435 (by decide +kernel), tb_in 47 (by decide +kernel), Nat.le_of_ble_eq_true rfl⟩, tb_in 434 (by decide +kernel)⟩
def kX2_with : Mth := (yX2_with, cX2_with, 3, (some .int))
theorem m_X2_with : MSn kX2_with 3 := ⟨⟨⟨by decide +kernel, by decide +kernel, by decide +kernel⟩, tb_in 440 (by decide +kernel), tb_in 50 (by decide +kernel), Nat.le_of_ble_eq_true rfl⟩, tb_in 439 (by decide +kernel)⟩
def kX5_kindOf : Mth := (yX5_kindOf, cX5_kindOf, 1, (some .int))
theorem m_X5_kindOf : MSn kX5_kindOf 1 := ⟨⟨⟨by decide +kernel, by decide +kernel, by decide +kernel⟩, tb_in 443 (by decide +kernel), tb_in 47 (by decide +kernel), Nat.le_of_ble_eq_true rfl⟩, tb_in 442 (by decide +kernel)⟩
def kX4_side : Mth := (yX4_side, cX4_side, 1, (some .int))
theorem m_X4_side : MIn kX4_side 0 := ⟨⟨⟨by decide +kernel, by decide +kernel, by decide +kernel⟩, tb_in 449 (by decide +kernel), tb_in 48 (by decide +kernel), Nat.le_of_ble_eq_true rfl⟩, tb_in 447 (by decide +kernel), tb_in 448 (by decide +kernel)⟩
def kX1_clear : Mth := (yX1_clear, cX1_clear, 1, none)
theorem m_X1_clear : MIn kX1_clear 0 := ⟨⟨⟨by decide +kernel, by decide +kernel, by decide +kernel⟩, tb_in 453 (by decide +kernel), tb_in 51 (by decide +kernel), Nat.le_of_ble_eq_true rfl⟩, tb_in 451 (by decide +kernel), tb_in 452 (by decide +kernel)⟩
def kX3_clear : Mth := (yX3_clear, cX3_clear, 2, none)
theorem m_X3_clear : MIn kX3_clear 0 := ⟨⟨⟨by decide +kernel, by decide +kernel, by decide +kernel⟩, tb_in 457 (by decide +kernel), tb_in 52 (by decide +kernel), Nat.le_of_ble_eq_true rfl⟩, tb_in 455 (by decide +kernel), tb_in 456 (by decide +kernel)⟩
def kX5_cell : Mth := (yX5_cell, cX5_cell, 2, (some .int))
theorem m_X5_cell : MIn kX5_cell 1 := ⟨⟨⟨by decide +kernel, by decide +kernel, by decide +kernel⟩, tb_in 461 (by decide +kernel), tb_in 47 (by decide +kernel), Nat.le_of_ble_eq_true rfl⟩, tb_in 459 (by decide +kernel), tb_in 460 (by decide +kernel)⟩
def kX5_isCell : Mth := (yX5_isCell, cX5_isCell, 2, (some .boolean))
theorem m_X5_isCell : MIn kX5_isCell 1 := ⟨⟨⟨by decide +kernel, by decide +kernel, by decide +kernel⟩, tb_in 465 (by decide +kernel), tb_in 47 (by decide +kernel), Nat.le_of_ble_eq_true rfl⟩, tb_in 464 (by decide +kernel), tb_in 7 (by decide +kernel)⟩
def kX2_sign : Mth := (yX2_sign, cX2_sign, 2, (some .int))
theorem m_X2_sign : MIn kX2_sign 1 := ⟨⟨⟨by decide +kernel, by decide +kernel, by decide +kernel⟩, tb_in 469 (by decide +kernel), tb_in 50 (by decide +kernel), Nat.le_of_ble_eq_true rfl⟩, tb_in 467 (by decide +kernel), tb_in 468 (by decide +kernel)⟩
def kX5_letter : Mth := (yX5_letter, cX5_letter, 1, (some .int))
theorem m_X5_letter : MSn kX5_letter 1 := ⟨⟨⟨by decide +kernel, by decide +kernel, by decide +kernel⟩, tb_in 472 (by decide +kernel), tb_in 47 (by decide +kernel), Nat.le_of_ble_eq_true rfl⟩, tb_in 471 (by decide +kernel)⟩
def kX5_gone : Mth := (yX5_gone, cX5_gone, 2, (some .int))
theorem m_X5_gone : MIn kX5_gone 1 := ⟨⟨⟨by decide +kernel, by decide +kernel, by decide +kernel⟩, tb_in 498 (by decide +kernel), tb_in 47 (by decide +kernel), Nat.le_of_ble_eq_true rfl⟩, tb_in 496 (by decide +kernel), tb_in 497 (by decide +kernel)⟩
def kX5_has : Mth := (yX5_has, cX5_has, 2, (some .boolean))
theorem m_X5_has : MSn kX5_has 2 := ⟨⟨⟨by decide +kernel, by decide +kernel, by decide +kernel⟩, tb_in 501 (by decide +kernel), tb_in 47 (by decide +kernel), Nat.le_of_ble_eq_true rfl⟩, tb_in 500 (by decide +kernel)⟩
def kX2_lying : Mth := (yX2_lying, cX2_lying, 2, (some .int))
theorem m_X2_lying : MIn kX2_lying 1 := ⟨⟨⟨by decide +kernel, by decide +kernel, by decide +kernel⟩, tb_in 505 (by decide +kernel), tb_in 50 (by decide +kernel), Nat.le_of_ble_eq_true rfl⟩, tb_in 503 (by decide +kernel), tb_in 504 (by decide +kernel)⟩
def kX5_aims : Mth := (yX5_aims, cX5_aims, 2, (some .int))
theorem m_X5_aims : MIn kX5_aims 1 := ⟨⟨⟨by decide +kernel, by decide +kernel, by decide +kernel⟩, tb_in 509 (by decide +kernel), tb_in 47 (by decide +kernel), Nat.le_of_ble_eq_true rfl⟩, tb_in 507 (by decide +kernel), tb_in 508 (by decide +kernel)⟩
def kX2_full : Mth := (yX2_full, cX2_full, 1, (some .int))
theorem m_X2_full : MIn kX2_full 0 := ⟨⟨⟨by decide +kernel, by decide +kernel, by decide +kernel⟩, tb_in 513 (by decide +kernel), tb_in 50 (by decide +kernel), Nat.le_of_ble_eq_true rfl⟩, tb_in 511 (by decide +kernel), tb_in 512 (by decide +kernel)⟩
def kX0_aimed : Mth := (yX0_aimed, cX0_aimed, 4, (some .int))
theorem m_X0_aimed : MIn kX0_aimed 3 := ⟨⟨⟨by decide +kernel, by decide +kernel, by decide +kernel⟩, tb_in 517 (by decide +kernel), tb_in 49 (by decide +kernel), Nat.le_of_ble_eq_true rfl⟩, tb_in 515 (by decide +kernel), tb_in 516 (by decide +kernel)⟩
def kX0_lines : Mth := (yX0_lines, cX0_lines, 8, (some .int))
theorem m_X0_lines : MIn kX0_lines 3 := ⟨⟨⟨by decide +kernel, by decide +kernel, by decide +kernel⟩, tb_in 522 (by decide +kernel), tb_in 49 (by decide +kernel), Nat.le_of_ble_eq_true rfl⟩, tb_in 521 (by decide +kernel), tb_in 8 (by decide +kernel)⟩
def kX5_can : Mth := (yX5_can, cX5_can, 2, (some .int))
theorem m_X5_can : MIn kX5_can 1 := ⟨⟨⟨by decide +kernel, by decide +kernel, by decide +kernel⟩, tb_in 528 (by decide +kernel), tb_in 47 (by decide +kernel), Nat.le_of_ble_eq_true rfl⟩, tb_in 526 (by decide +kernel), tb_in 527 (by decide +kernel)⟩
def kX2_reach : Mth := (yX2_reach, cX2_reach, 7, (some .int))
theorem m_X2_reach : MIn kX2_reach 2 := ⟨⟨⟨by decide +kernel, by decide +kernel, by decide +kernel⟩, tb_in 532 (by decide +kernel), tb_in 50 (by decide +kernel), Nat.le_of_ble_eq_true rfl⟩, tb_in 530 (by decide +kernel), tb_in 531 (by decide +kernel)⟩
def kX0_going : Mth := (yX0_going, cX0_going, 4, (some .int))
theorem m_X0_going : MIn kX0_going 3 := ⟨⟨⟨by decide +kernel, by decide +kernel, by decide +kernel⟩, tb_in 539 (by decide +kernel), tb_in 49 (by decide +kernel), Nat.le_of_ble_eq_true rfl⟩, tb_in 537 (by decide +kernel), tb_in 538 (by decide +kernel)⟩
def kX2_men : Mth := (yX2_men, cX2_men, 2, (some .int))
theorem m_X2_men : MIn kX2_men 1 := ⟨⟨⟨by decide +kernel, by decide +kernel, by decide +kernel⟩, tb_in 543 (by decide +kernel), tb_in 50 (by decide +kernel), Nat.le_of_ble_eq_true rfl⟩, tb_in 541 (by decide +kernel), tb_in 542 (by decide +kernel)⟩
def kX5_plies : Mth := (yX5_plies, cX5_plies, 1, (some .int))
theorem m_X5_plies : MIn kX5_plies 0 := ⟨⟨⟨by decide +kernel, by decide +kernel, by decide +kernel⟩, tb_in 547 (by decide +kernel), tb_in 47 (by decide +kernel), Nat.le_of_ble_eq_true rfl⟩, tb_in 545 (by decide +kernel), tb_in 546 (by decide +kernel)⟩
def kX2_list : Mth := (yX2_list, cX2_list, 4, (some .int))
theorem m_X2_list : MIn kX2_list 1 := ⟨⟨⟨by decide +kernel, by decide +kernel, by decide +kernel⟩, tb_in 551 (by decide +kernel), tb_in 50 (by decide +kernel), Nat.le_of_ble_eq_true rfl⟩, tb_in 549 (by decide +kernel), tb_in 550 (by decide +kernel)⟩
def kX2_listFrom : Mth := (yX2_listFrom, cX2_listFrom, 5, none)
theorem m_X2_listFrom : MIn kX2_listFrom 3 := ⟨⟨⟨by decide +kernel, by decide +kernel, by decide +kernel⟩, tb_in 557 (by decide +kernel), tb_in 50 (by decide +kernel), Nat.le_of_ble_eq_true rfl⟩, tb_in 556 (by decide +kernel), tb_in 9 (by decide +kernel)⟩
def kX2_setPly : Mth := (yX2_setPly, cX2_setPly, 3, none)
theorem m_X2_setPly : MIn kX2_setPly 2 := ⟨⟨⟨by decide +kernel, by decide +kernel, by decide +kernel⟩, tb_in 561 (by decide +kernel), tb_in 50 (by decide +kernel), Nat.le_of_ble_eq_true rfl⟩, tb_in 559 (by decide +kernel), tb_in 560 (by decide +kernel)⟩
def kX5_move : Mth := (yX5_move, cX5_move, 5, (some .int))
theorem m_X5_move : MIn kX5_move 2 := ⟨⟨⟨by decide +kernel, by decide +kernel, by decide +kernel⟩, tb_in 566 (by decide +kernel), tb_in 47 (by decide +kernel), Nat.le_of_ble_eq_true rfl⟩, tb_in 564 (by decide +kernel), tb_in 565 (by decide +kernel)⟩
def kX5_may : Mth := (yX5_may, cX5_may, 5, (some .boolean))
theorem m_X5_may : MIn kX5_may 2 := ⟨⟨⟨by decide +kernel, by decide +kernel, by decide +kernel⟩, tb_in 570 (by decide +kernel), tb_in 47 (by decide +kernel), Nat.le_of_ble_eq_true rfl⟩, tb_in 569 (by decide +kernel), tb_in 10 (by decide +kernel)⟩
def kX1_add : Mth := (yX1_add, cX1_add, 2, none)
theorem m_X1_add : MIn kX1_add 1 := ⟨⟨⟨by decide +kernel, by decide +kernel, by decide +kernel⟩, tb_in 575 (by decide +kernel), tb_in 51 (by decide +kernel), Nat.le_of_ble_eq_true rfl⟩, tb_in 573 (by decide +kernel), tb_in 574 (by decide +kernel)⟩
def kX3_set : Mth := (yX3_set, cX3_set, 3, none)
theorem m_X3_set : MIn kX3_set 2 := ⟨⟨⟨by decide +kernel, by decide +kernel, by decide +kernel⟩, tb_in 579 (by decide +kernel), tb_in 52 (by decide +kernel), Nat.le_of_ble_eq_true rfl⟩, tb_in 577 (by decide +kernel), tb_in 578 (by decide +kernel)⟩
def kX3_isInside : Mth := (yX3_isInside, cX3_isInside, 2, (some .boolean))
theorem m_X3_isInside : MIn kX3_isInside 1 := ⟨⟨⟨by decide +kernel, by decide +kernel, by decide +kernel⟩, tb_in 583 (by decide +kernel), tb_in 52 (by decide +kernel), Nat.le_of_ble_eq_true rfl⟩, tb_in 582 (by decide +kernel), tb_in 11 (by decide +kernel)⟩
def kX2_make : Mth := (yX2_make, cX2_make, 5, none)
theorem m_X2_make : MIn kX2_make 2 := ⟨⟨⟨by decide +kernel, by decide +kernel, by decide +kernel⟩, tb_in 587 (by decide +kernel), tb_in 50 (by decide +kernel), Nat.le_of_ble_eq_true rfl⟩, tb_in 585 (by decide +kernel), tb_in 586 (by decide +kernel)⟩
def kX2_age : Mth := (yX2_age, cX2_age, 3, none)
theorem m_X2_age : MIn kX2_age 0 := ⟨⟨⟨by decide +kernel, by decide +kernel, by decide +kernel⟩, tb_in 591 (by decide +kernel), tb_in 50 (by decide +kernel), Nat.le_of_ble_eq_true rfl⟩, tb_in 590 (by decide +kernel), tb_in 12 (by decide +kernel)⟩
def kX2_fall : Mth := (yX2_fall, cX2_fall, 5, none)
theorem m_X2_fall : MIn kX2_fall 2 := ⟨⟨⟨by decide +kernel, by decide +kernel, by decide +kernel⟩, tb_in 596 (by decide +kernel), tb_in 50 (by decide +kernel), Nat.le_of_ble_eq_true rfl⟩, tb_in 595 (by decide +kernel), tb_in 13 (by decide +kernel)⟩
def kX5_pass : Mth := (yX5_pass, cX5_pass, 1, (some .int))
theorem m_X5_pass : MIn kX5_pass 0 := ⟨⟨⟨by decide +kernel, by decide +kernel, by decide +kernel⟩, tb_in 600 (by decide +kernel), tb_in 47 (by decide +kernel), Nat.le_of_ble_eq_true rfl⟩, tb_in 598 (by decide +kernel), tb_in 599 (by decide +kernel)⟩
def kX2_ply : Mth := (yX2_ply, cX2_ply, 2, (some .int))
theorem m_X2_ply : MIn kX2_ply 1 := ⟨⟨⟨by decide +kernel, by decide +kernel, by decide +kernel⟩, tb_in 604 (by decide +kernel), tb_in 50 (by decide +kernel), Nat.le_of_ble_eq_true rfl⟩, tb_in 602 (by decide +kernel), tb_in 603 (by decide +kernel)⟩
def kX5_undo : Mth := (yX5_undo, cX5_undo, 1, (some .int))
theorem m_X5_undo : MIn kX5_undo 0 := ⟨⟨⟨by decide +kernel, by decide +kernel, by decide +kernel⟩, tb_in 609 (by decide +kernel), tb_in 47 (by decide +kernel), Nat.le_of_ble_eq_true rfl⟩, tb_in 607 (by decide +kernel), tb_in 608 (by decide +kernel)⟩
def kX1_takeLast : Mth := (yX1_takeLast, cX1_takeLast, 2, none)
theorem m_X1_takeLast : MIn kX1_takeLast 1 := ⟨⟨⟨by decide +kernel, by decide +kernel, by decide +kernel⟩, tb_in 613 (by decide +kernel), tb_in 51 (by decide +kernel), Nat.le_of_ble_eq_true rfl⟩, tb_in 611 (by decide +kernel), tb_in 612 (by decide +kernel)⟩
def kX3_get : Mth := (yX3_get, cX3_get, 3, none)
theorem m_X3_get : MIn kX3_get 2 := ⟨⟨⟨by decide +kernel, by decide +kernel, by decide +kernel⟩, tb_in 617 (by decide +kernel), tb_in 52 (by decide +kernel), Nat.le_of_ble_eq_true rfl⟩, tb_in 615 (by decide +kernel), tb_in 616 (by decide +kernel)⟩
def kX3_holds : Mth := (yX3_holds, cX3_holds, 2, (some .boolean))
theorem m_X3_holds : MIn kX3_holds 1 := ⟨⟨⟨by decide +kernel, by decide +kernel, by decide +kernel⟩, tb_in 621 (by decide +kernel), tb_in 52 (by decide +kernel), Nat.le_of_ble_eq_true rfl⟩, tb_in 619 (by decide +kernel), tb_in 620 (by decide +kernel)⟩
def kX5_judge : Mth := (yX5_judge, cX5_judge, 5, (some .int))
theorem m_X5_judge : MIn kX5_judge 2 := ⟨⟨⟨by decide +kernel, by decide +kernel, by decide +kernel⟩, tb_in 626 (by decide +kernel), tb_in 47 (by decide +kernel), Nat.le_of_ble_eq_true rfl⟩, tb_in 624 (by decide +kernel), tb_in 625 (by decide +kernel)⟩
def kX2_copy : Mth := (yX2_copy, cX2_copy, 2, none)
theorem m_X2_copy : MIn kX2_copy 1 := ⟨⟨⟨by decide +kernel, by decide +kernel, by decide +kernel⟩, tb_in 630 (by decide +kernel), tb_in 50 (by decide +kernel), Nat.le_of_ble_eq_true rfl⟩, tb_in 628 (by decide +kernel), tb_in 629 (by decide +kernel)⟩
def kX5_wins : Mth := (yX5_wins, cX5_wins, 3, (some .int))
theorem m_X5_wins : MIn kX5_wins 1 := ⟨⟨⟨by decide +kernel, by decide +kernel, by decide +kernel⟩, tb_in 634 (by decide +kernel), tb_in 47 (by decide +kernel), Nat.le_of_ble_eq_true rfl⟩, tb_in 632 (by decide +kernel), tb_in 633 (by decide +kernel)⟩
def kX5_refusedAhead : Mth := (yX5_refusedAhead, cX5_refusedAhead, 2, (some .int))
theorem m_X5_refusedAhead : MIn kX5_refusedAhead 1 := ⟨⟨⟨by decide +kernel, by decide +kernel, by decide +kernel⟩, tb_in 638 (by decide +kernel), tb_in 47 (by decide +kernel), Nat.le_of_ble_eq_true rfl⟩, tb_in 637 (by decide +kernel), tb_in 14 (by decide +kernel)⟩
def kX5_isForced : Mth := (yX5_isForced, cX5_isForced, 8, (some .boolean))
theorem m_X5_isForced : MSn kX5_isForced 4 := ⟨⟨⟨by decide +kernel, by decide +kernel, by decide +kernel⟩, tb_in 641 (by decide +kernel), tb_in 47 (by decide +kernel), Nat.le_of_ble_eq_true rfl⟩, tb_in 640 (by decide +kernel)⟩
def kX2_canFellLast : Mth := (yX2_canFellLast, cX2_canFellLast, 5, (some .boolean))
theorem m_X2_canFellLast : MIn kX2_canFellLast 1 := ⟨⟨⟨by decide +kernel, by decide +kernel, by decide +kernel⟩, tb_in 645 (by decide +kernel), tb_in 50 (by decide +kernel), Nat.le_of_ble_eq_true rfl⟩, tb_in 643 (by decide +kernel), tb_in 644 (by decide +kernel)⟩
def kX2_follow : Mth := (yX2_follow, cX2_follow, 4, none)
theorem m_X2_follow : MIn kX2_follow 3 := ⟨⟨⟨by decide +kernel, by decide +kernel, by decide +kernel⟩, tb_in 655 (by decide +kernel), tb_in 50 (by decide +kernel), Nat.le_of_ble_eq_true rfl⟩, tb_in 653 (by decide +kernel), tb_in 654 (by decide +kernel)⟩
def kX5_keys : Mth := (yX5_keys, cX5_keys, 3, (some .int))
theorem m_X5_keys : MIn kX5_keys 1 := ⟨⟨⟨by decide +kernel, by decide +kernel, by decide +kernel⟩, tb_in 661 (by decide +kernel), tb_in 47 (by decide +kernel), Nat.le_of_ble_eq_true rfl⟩, tb_in 659 (by decide +kernel), tb_in 660 (by decide +kernel)⟩
def kX5_listKeys : Mth := (yX5_listKeys, cX5_listKeys, 6, (some .int))
theorem m_X5_listKeys : MIn kX5_listKeys 1 := ⟨⟨⟨by decide +kernel, by decide +kernel, by decide +kernel⟩, tb_in 665 (by decide +kernel), tb_in 47 (by decide +kernel), Nat.le_of_ble_eq_true rfl⟩, tb_in 664 (by decide +kernel), tb_in 15 (by decide +kernel)⟩
def kX5_keyAt : Mth := (yX5_keyAt, cX5_keyAt, 4, (some .int))
theorem m_X5_keyAt : MIn kX5_keyAt 2 := ⟨⟨⟨by decide +kernel, by decide +kernel, by decide +kernel⟩, tb_in 670 (by decide +kernel), tb_in 47 (by decide +kernel), Nat.le_of_ble_eq_true rfl⟩, tb_in 668 (by decide +kernel), tb_in 669 (by decide +kernel)⟩
def kX5_odds : Mth := (yX5_odds, cX5_odds, 7, (some .int))
theorem m_X5_odds : MIn kX5_odds 1 := ⟨⟨⟨by decide +kernel, by decide +kernel, by decide +kernel⟩, tb_in 674 (by decide +kernel), tb_in 47 (by decide +kernel), Nat.le_of_ble_eq_true rfl⟩, tb_in 672 (by decide +kernel), tb_in 673 (by decide +kernel)⟩
def kX5_greatestCommon : Mth := (yX5_greatestCommon, cX5_greatestCommon, 6, (some .int))
theorem m_X5_greatestCommon : MSn kX5_greatestCommon 2 := ⟨⟨⟨by decide +kernel, by decide +kernel, by decide +kernel⟩, tb_in 677 (by decide +kernel), tb_in 47 (by decide +kernel), Nat.le_of_ble_eq_true rfl⟩, tb_in 676 (by decide +kernel)⟩
def kX5_parts : Mth := (yX5_parts, cX5_parts, 1, (some .int))
theorem m_X5_parts : MIn kX5_parts 0 := ⟨⟨⟨by decide +kernel, by decide +kernel, by decide +kernel⟩, tb_in 681 (by decide +kernel), tb_in 47 (by decide +kernel), Nat.le_of_ble_eq_true rfl⟩, tb_in 679 (by decide +kernel), tb_in 680 (by decide +kernel)⟩
def kX5_partsAheadOf : Mth := (yX5_partsAheadOf, cX5_partsAheadOf, 7, (some .int))
theorem m_X5_partsAheadOf : MIn kX5_partsAheadOf 1 := ⟨⟨⟨by decide +kernel, by decide +kernel, by decide +kernel⟩, tb_in 685 (by decide +kernel), tb_in 47 (by decide +kernel), Nat.le_of_ble_eq_true rfl⟩, tb_in 684 (by decide +kernel), tb_in 16 (by decide +kernel)⟩
def kX0_all : Mth := (yX0_all, cX0_all, 1, (some .int))
theorem m_X0_all : MIn kX0_all 0 := ⟨⟨⟨by decide +kernel, by decide +kernel, by decide +kernel⟩, tb_in 689 (by decide +kernel), tb_in 49 (by decide +kernel), Nat.le_of_ble_eq_true rfl⟩, tb_in 687 (by decide +kernel), tb_in 688 (by decide +kernel)⟩
def kX0_hanging : Mth := (yX0_hanging, cX0_hanging, 7, (some .int))
theorem m_X0_hanging : MIn kX0_hanging 2 := ⟨⟨⟨by decide +kernel, by decide +kernel, by decide +kernel⟩, tb_in 693 (by decide +kernel), tb_in 49 (by decide +kernel), Nat.le_of_ble_eq_true rfl⟩, tb_in 691 (by decide +kernel), tb_in 692 (by decide +kernel)⟩
def kX5_lowest : Mth := (yX5_lowest, cX5_lowest, 1, (some .int))
theorem m_X5_lowest : MSn kX5_lowest 1 := ⟨⟨⟨by decide +kernel, by decide +kernel, by decide +kernel⟩, tb_in 696 (by decide +kernel), tb_in 47 (by decide +kernel), Nat.le_of_ble_eq_true rfl⟩, tb_in 695 (by decide +kernel)⟩
def kX5_part : Mth := (yX5_part, cX5_part, 2, (some .int))
theorem m_X5_part : MIn kX5_part 1 := ⟨⟨⟨by decide +kernel, by decide +kernel, by decide +kernel⟩, tb_in 701 (by decide +kernel), tb_in 47 (by decide +kernel), Nat.le_of_ble_eq_true rfl⟩, tb_in 699 (by decide +kernel), tb_in 700 (by decide +kernel)⟩
def kX5_comes : Mth := (yX5_comes, cX5_comes, 2, (some .int))
theorem m_X5_comes : MIn kX5_comes 1 := ⟨⟨⟨by decide +kernel, by decide +kernel, by decide +kernel⟩, tb_in 705 (by decide +kernel), tb_in 47 (by decide +kernel), Nat.le_of_ble_eq_true rfl⟩, tb_in 703 (by decide +kernel), tb_in 704 (by decide +kernel)⟩
def kX0_coming : Mth := (yX0_coming, cX0_coming, 8, (some .int))
theorem m_X0_coming : MIn kX0_coming 3 := ⟨⟨⟨by decide +kernel, by decide +kernel, by decide +kernel⟩, tb_in 709 (by decide +kernel), tb_in 49 (by decide +kernel), Nat.le_of_ble_eq_true rfl⟩, tb_in 707 (by decide +kernel), tb_in 708 (by decide +kernel)⟩
def kX5_comesAt : Mth := (yX5_comesAt, cX5_comesAt, 4, (some .int))
theorem m_X5_comesAt : MIn kX5_comesAt 2 := ⟨⟨⟨by decide +kernel, by decide +kernel, by decide +kernel⟩, tb_in 715 (by decide +kernel), tb_in 47 (by decide +kernel), Nat.le_of_ble_eq_true rfl⟩, tb_in 713 (by decide +kernel), tb_in 714 (by decide +kernel)⟩
def kX5_canComeAt : Mth := (yX5_canComeAt, cX5_canComeAt, 6, (some .boolean))
theorem m_X5_canComeAt : MIn kX5_canComeAt 2 := ⟨⟨⟨by decide +kernel, by decide +kernel, by decide +kernel⟩, tb_in 720 (by decide +kernel), tb_in 47 (by decide +kernel), Nat.le_of_ble_eq_true rfl⟩, tb_in 719 (by decide +kernel), tb_in 17 (by decide +kernel)⟩
def kX0_threatened : Mth := (yX0_threatened, cX0_threatened, 7, (some .int))
theorem m_X0_threatened : MIn kX0_threatened 3 := ⟨⟨⟨by decide +kernel, by decide +kernel, by decide +kernel⟩, tb_in 724 (by decide +kernel), tb_in 49 (by decide +kernel), Nat.le_of_ble_eq_true rfl⟩, tb_in 722 (by decide +kernel), tb_in 723 (by decide +kernel)⟩
def kX5_shut : Mth := (yX5_shut, cX5_shut, 1, (some .int))
theorem m_X5_shut : MIn kX5_shut 0 := ⟨⟨⟨by decide +kernel, by decide +kernel, by decide +kernel⟩, tb_in 729 (by decide +kernel), tb_in 47 (by decide +kernel), Nat.le_of_ble_eq_true rfl⟩, tb_in 727 (by decide +kernel), tb_in 728 (by decide +kernel)⟩
def kX5_ways : Mth := (yX5_ways, cX5_ways, 3, (some .int))
theorem m_X5_ways : MIn kX5_ways 2 := ⟨⟨⟨by decide +kernel, by decide +kernel, by decide +kernel⟩, tb_in 733 (by decide +kernel), tb_in 47 (by decide +kernel), Nat.le_of_ble_eq_true rfl⟩, tb_in 731 (by decide +kernel), tb_in 732 (by decide +kernel)⟩
def kX5_isSlot : Mth := (yX5_isSlot, cX5_isSlot, 1, (some .boolean))
theorem m_X5_isSlot : MSn kX5_isSlot 1 := ⟨⟨⟨by decide +kernel, by decide +kernel, by decide +kernel⟩, tb_in 736 (by decide +kernel), tb_in 47 (by decide +kernel), Nat.le_of_ble_eq_true rfl⟩, tb_in 735 (by decide +kernel)⟩
def kX5_rowsTo : Mth := (yX5_rowsTo, cX5_rowsTo, 8, (some .int))
theorem m_X5_rowsTo : MSn kX5_rowsTo 4 := ⟨⟨⟨by decide +kernel, by decide +kernel, by decide +kernel⟩, tb_in 741 (by decide +kernel), tb_in 47 (by decide +kernel), Nat.le_of_ble_eq_true rfl⟩, tb_in 740 (by decide +kernel)⟩
def kX2_differing : Mth := (yX2_differing, cX2_differing, 4, (some .int))
theorem m_X2_differing : MIn kX2_differing 1 := ⟨⟨⟨by decide +kernel, by decide +kernel, by decide +kernel⟩, tb_in 745 (by decide +kernel), tb_in 50 (by decide +kernel), Nat.le_of_ble_eq_true rfl⟩, tb_in 743 (by decide +kernel), tb_in 744 (by decide +kernel)⟩
def kX2_isAs : Mth := (yX2_isAs, cX2_isAs, 2, (some .boolean))
theorem m_X2_isAs : MIn kX2_isAs 1 := ⟨⟨⟨by decide +kernel, by decide +kernel, by decide +kernel⟩, tb_in 756 (by decide +kernel), tb_in 50 (by decide +kernel), Nat.le_of_ble_eq_true rfl⟩, tb_in 754 (by decide +kernel), tb_in 755 (by decide +kernel)⟩
def kX5_seed : Mth := (yX5_seed, cX5_seed, 5, (some .long))
theorem m_X5_seed : MIn kX5_seed 1 := ⟨⟨⟨by decide +kernel, by decide +kernel, by decide +kernel⟩, tb_in 760 (by decide +kernel), tb_in 47 (by decide +kernel), Nat.le_of_ble_eq_true rfl⟩, tb_in 758 (by decide +kernel), tb_in 759 (by decide +kernel)⟩
def kX5_play : Mth := (yX5_play, cX5_play, 4, (some .int))
theorem m_X5_play : MIn kX5_play 1 := ⟨⟨⟨by decide +kernel, by decide +kernel, by decide +kernel⟩, tb_in 764 (by decide +kernel), tb_in 47 (by decide +kernel), Nat.le_of_ble_eq_true rfl⟩, tb_in 762 (by decide +kernel), tb_in 763 (by decide +kernel)⟩
def kX2_menCount : Mth := (yX2_menCount, cX2_menCount, 1, (some .int))
theorem m_X2_menCount : MIn kX2_menCount 0 := ⟨⟨⟨by decide +kernel, by decide +kernel, by decide +kernel⟩, tb_in 770 (by decide +kernel), tb_in 50 (by decide +kernel), Nat.le_of_ble_eq_true rfl⟩, tb_in 768 (by decide +kernel), tb_in 769 (by decide +kernel)⟩
def kX5_keep : Mth := (yX5_keep, cX5_keep, 2, (some .int))
theorem m_X5_keep : MIn kX5_keep 1 := ⟨⟨⟨by decide +kernel, by decide +kernel, by decide +kernel⟩, tb_in 774 (by decide +kernel), tb_in 47 (by decide +kernel), Nat.le_of_ble_eq_true rfl⟩, tb_in 772 (by decide +kernel), tb_in 773 (by decide +kernel)⟩
def kX5_again : Mth := (yX5_again, cX5_again, 2, (some .int))
theorem m_X5_again : MIn kX5_again 1 := ⟨⟨⟨by decide +kernel, by decide +kernel, by decide +kernel⟩, tb_in 779 (by decide +kernel), tb_in 47 (by decide +kernel), Nat.le_of_ble_eq_true rfl⟩, tb_in 777 (by decide +kernel), tb_in 778 (by decide +kernel)⟩
def kX5_count : Mth := (yX5_count, cX5_count, 2, (some .int))
theorem m_X5_count : MIn kX5_count 1 := ⟨⟨⟨by decide +kernel, by decide +kernel, by decide +kernel⟩, tb_in 783 (by decide +kernel), tb_in 47 (by decide +kernel), Nat.le_of_ble_eq_true rfl⟩, tb_in 781 (by decide +kernel), tb_in 782 (by decide +kernel)⟩
def kX6_write : Mth := (yX6_write, cX6_write, 5, (some .int))
theorem m_X6_write : MIn kX6_write 2 := ⟨⟨⟨by decide +kernel, by decide +kernel, by decide +kernel⟩, tb_in 852 (by decide +kernel), tb_in 53 (by decide +kernel), Nat.le_of_ble_eq_true rfl⟩, tb_in 850 (by decide +kernel), tb_in 851 (by decide +kernel)⟩
def kX6_in : Mth := (yX6_in, cX6_in, 6, (some .boolean))
theorem m_X6_in : MSn kX6_in 3 := ⟨⟨⟨by decide +kernel, by decide +kernel, by decide +kernel⟩, tb_in 856 (by decide +kernel), tb_in 53 (by decide +kernel), Nat.le_of_ble_eq_true rfl⟩, tb_in 855 (by decide +kernel)⟩
def kX6_wipe : Mth := (yX6_wipe, cX6_wipe, 2, (some .int))
theorem m_X6_wipe : MIn kX6_wipe 0 := ⟨⟨⟨by decide +kernel, by decide +kernel, by decide +kernel⟩, tb_in 861 (by decide +kernel), tb_in 53 (by decide +kernel), Nat.le_of_ble_eq_true rfl⟩, tb_in 859 (by decide +kernel), tb_in 860 (by decide +kernel)⟩
def kX6_fault : Mth := (yX6_fault, cX6_fault, 2, (some .int))
theorem m_X6_fault : MIn kX6_fault 0 := ⟨⟨⟨by decide +kernel, by decide +kernel, by decide +kernel⟩, tb_in 865 (by decide +kernel), tb_in 53 (by decide +kernel), Nat.le_of_ble_eq_true rfl⟩, tb_in 863 (by decide +kernel), tb_in 864 (by decide +kernel)⟩
def kX6_fits : Mth := (yX6_fits, cX6_fits, 3, (some .boolean))
theorem m_X6_fits : MIn kX6_fits 1 := ⟨⟨⟨by decide +kernel, by decide +kernel, by decide +kernel⟩, tb_in 869 (by decide +kernel), tb_in 53 (by decide +kernel), Nat.le_of_ble_eq_true rfl⟩, tb_in 868 (by decide +kernel), tb_in 18 (by decide +kernel)⟩
def kX6_isCellSign : Mth := (yX6_isCellSign, cX6_isCellSign, 1, (some .boolean))
theorem m_X6_isCellSign : MSn kX6_isCellSign 1 := ⟨⟨⟨by decide +kernel, by decide +kernel, by decide +kernel⟩, tb_in 876 (by decide +kernel), tb_in 53 (by decide +kernel), Nat.le_of_ble_eq_true rfl⟩, tb_in 875 (by decide +kernel)⟩
def kX6_sideOf : Mth := (yX6_sideOf, cX6_sideOf, 1, (some .int))
theorem m_X6_sideOf : MSn kX6_sideOf 1 := ⟨⟨⟨by decide +kernel, by decide +kernel, by decide +kernel⟩, tb_in 879 (by decide +kernel), tb_in 53 (by decide +kernel), Nat.le_of_ble_eq_true rfl⟩, tb_in 878 (by decide +kernel)⟩
def kX6_board : Mth := (yX6_board, cX6_board, 2, (some .int))
theorem m_X6_board : MIn kX6_board 0 := ⟨⟨⟨by decide +kernel, by decide +kernel, by decide +kernel⟩, tb_in 883 (by decide +kernel), tb_in 53 (by decide +kernel), Nat.le_of_ble_eq_true rfl⟩, tb_in 881 (by decide +kernel), tb_in 882 (by decide +kernel)⟩
def kX6_cell : Mth := (yX6_cell, cX6_cell, 2, (some .int))
theorem m_X6_cell : MIn kX6_cell 1 := ⟨⟨⟨by decide +kernel, by decide +kernel, by decide +kernel⟩, tb_in 888 (by decide +kernel), tb_in 53 (by decide +kernel), Nat.le_of_ble_eq_true rfl⟩, tb_in 886 (by decide +kernel), tb_in 887 (by decide +kernel)⟩
def kX6_isCell : Mth := (yX6_isCell, cX6_isCell, 2, (some .boolean))
theorem m_X6_isCell : MIn kX6_isCell 1 := ⟨⟨⟨by decide +kernel, by decide +kernel, by decide +kernel⟩, tb_in 892 (by decide +kernel), tb_in 53 (by decide +kernel), Nat.le_of_ble_eq_true rfl⟩, tb_in 891 (by decide +kernel), tb_in 19 (by decide +kernel)⟩
def kX6_gone : Mth := (yX6_gone, cX6_gone, 2, (some .int))
theorem m_X6_gone : MIn kX6_gone 1 := ⟨⟨⟨by decide +kernel, by decide +kernel, by decide +kernel⟩, tb_in 896 (by decide +kernel), tb_in 53 (by decide +kernel), Nat.le_of_ble_eq_true rfl⟩, tb_in 894 (by decide +kernel), tb_in 895 (by decide +kernel)⟩
def kX6_aims : Mth := (yX6_aims, cX6_aims, 2, (some .int))
theorem m_X6_aims : MIn kX6_aims 1 := ⟨⟨⟨by decide +kernel, by decide +kernel, by decide +kernel⟩, tb_in 900 (by decide +kernel), tb_in 53 (by decide +kernel), Nat.le_of_ble_eq_true rfl⟩, tb_in 898 (by decide +kernel), tb_in 899 (by decide +kernel)⟩
def kX6_aimsOf : Mth := (yX6_aimsOf, cX6_aimsOf, 11, (some .int))
theorem m_X6_aimsOf : MIn kX6_aimsOf 4 := ⟨⟨⟨by decide +kernel, by decide +kernel, by decide +kernel⟩, tb_in 904 (by decide +kernel), tb_in 53 (by decide +kernel), Nat.le_of_ble_eq_true rfl⟩, tb_in 903 (by decide +kernel), tb_in 20 (by decide +kernel)⟩
def kX6_kindOf : Mth := (yX6_kindOf, cX6_kindOf, 1, (some .int))
theorem m_X6_kindOf : MSn kX6_kindOf 1 := ⟨⟨⟨by decide +kernel, by decide +kernel, by decide +kernel⟩, tb_in 907 (by decide +kernel), tb_in 53 (by decide +kernel), Nat.le_of_ble_eq_true rfl⟩, tb_in 906 (by decide +kernel)⟩
def kX6_step : Mth := (yX6_step, cX6_step, 5, (some .int))
theorem m_X6_step : MIn kX6_step 3 := ⟨⟨⟨by decide +kernel, by decide +kernel, by decide +kernel⟩, tb_in 911 (by decide +kernel), tb_in 53 (by decide +kernel), Nat.le_of_ble_eq_true rfl⟩, tb_in 910 (by decide +kernel), tb_in 21 (by decide +kernel)⟩
def kX6_at : Mth := (yX6_at, cX6_at, 6, (some .int))
theorem m_X6_at : MIn kX6_at 3 := ⟨⟨⟨by decide +kernel, by decide +kernel, by decide +kernel⟩, tb_in 915 (by decide +kernel), tb_in 53 (by decide +kernel), Nat.le_of_ble_eq_true rfl⟩, tb_in 914 (by decide +kernel), tb_in 22 (by decide +kernel)⟩
def kX6_line : Mth := (yX6_line, cX6_line, 9, (some .int))
theorem m_X6_line : MIn kX6_line 5 := ⟨⟨⟨by decide +kernel, by decide +kernel, by decide +kernel⟩, tb_in 919 (by decide +kernel), tb_in 53 (by decide +kernel), Nat.le_of_ble_eq_true rfl⟩, tb_in 918 (by decide +kernel), tb_in 23 (by decide +kernel)⟩
def kX6_isFree : Mth := (yX6_isFree, cX6_isFree, 4, (some .boolean))
theorem m_X6_isFree : MIn kX6_isFree 3 := ⟨⟨⟨by decide +kernel, by decide +kernel, by decide +kernel⟩, tb_in 923 (by decide +kernel), tb_in 53 (by decide +kernel), Nat.le_of_ble_eq_true rfl⟩, tb_in 922 (by decide +kernel), tb_in 24 (by decide +kernel)⟩
def kX6_can : Mth := (yX6_can, cX6_can, 2, (some .int))
theorem m_X6_can : MIn kX6_can 1 := ⟨⟨⟨by decide +kernel, by decide +kernel, by decide +kernel⟩, tb_in 927 (by decide +kernel), tb_in 53 (by decide +kernel), Nat.le_of_ble_eq_true rfl⟩, tb_in 925 (by decide +kernel), tb_in 926 (by decide +kernel)⟩
def kX6_canOf : Mth := (yX6_canOf, cX6_canOf, 7, (some .int))
theorem m_X6_canOf : MIn kX6_canOf 2 := ⟨⟨⟨by decide +kernel, by decide +kernel, by decide +kernel⟩, tb_in 931 (by decide +kernel), tb_in 53 (by decide +kernel), Nat.le_of_ble_eq_true rfl⟩, tb_in 930 (by decide +kernel), tb_in 25 (by decide +kernel)⟩
def kX6_going : Mth := (yX6_going, cX6_going, 8, (some .int))
theorem m_X6_going : MIn kX6_going 4 := ⟨⟨⟨by decide +kernel, by decide +kernel, by decide +kernel⟩, tb_in 935 (by decide +kernel), tb_in 53 (by decide +kernel), Nat.le_of_ble_eq_true rfl⟩, tb_in 934 (by decide +kernel), tb_in 26 (by decide +kernel)⟩
def kX6_plies : Mth := (yX6_plies, cX6_plies, 1, (some .int))
theorem m_X6_plies : MIn kX6_plies 0 := ⟨⟨⟨by decide +kernel, by decide +kernel, by decide +kernel⟩, tb_in 939 (by decide +kernel), tb_in 53 (by decide +kernel), Nat.le_of_ble_eq_true rfl⟩, tb_in 937 (by decide +kernel), tb_in 938 (by decide +kernel)⟩
def kX6_list : Mth := (yX6_list, cX6_list, 6, (some .int))
theorem m_X6_list : MIn kX6_list 1 := ⟨⟨⟨by decide +kernel, by decide +kernel, by decide +kernel⟩, tb_in 943 (by decide +kernel), tb_in 53 (by decide +kernel), Nat.le_of_ble_eq_true rfl⟩, tb_in 942 (by decide +kernel), tb_in 27 (by decide +kernel)⟩
def kX6_move : Mth := (yX6_move, cX6_move, 4, (some .int))
theorem m_X6_move : MIn kX6_move 2 := ⟨⟨⟨by decide +kernel, by decide +kernel, by decide +kernel⟩, tb_in 947 (by decide +kernel), tb_in 53 (by decide +kernel), Nat.le_of_ble_eq_true rfl⟩, tb_in 945 (by decide +kernel), tb_in 946 (by decide +kernel)⟩
def kX6_isPly : Mth := (yX6_isPly, cX6_isPly, 4, (some .boolean))
theorem m_X6_isPly : MIn kX6_isPly 3 := ⟨⟨⟨by decide +kernel, by decide +kernel, by decide +kernel⟩, tb_in 951 (by decide +kernel), tb_in 53 (by decide +kernel), Nat.le_of_ble_eq_true rfl⟩, tb_in 950 (by decide +kernel), tb_in 28 (by decide +kernel)⟩
def kX6_keepPly : Mth := (yX6_keepPly, cX6_keepPly, 2, none)
theorem m_X6_keepPly : MIn kX6_keepPly 0 := ⟨⟨⟨by decide +kernel, by decide +kernel, by decide +kernel⟩, tb_in 955 (by decide +kernel), tb_in 53 (by decide +kernel), Nat.le_of_ble_eq_true rfl⟩, tb_in 954 (by decide +kernel), tb_in 29 (by decide +kernel)⟩
def kX6_make : Mth := (yX6_make, cX6_make, 9, (some .int))
theorem m_X6_make : MIn kX6_make 3 := ⟨⟨⟨by decide +kernel, by decide +kernel, by decide +kernel⟩, tb_in 959 (by decide +kernel), tb_in 53 (by decide +kernel), Nat.le_of_ble_eq_true rfl⟩, tb_in 958 (by decide +kernel), tb_in 30 (by decide +kernel)⟩
def kX6_hasKing : Mth := (yX6_hasKing, cX6_hasKing, 5, (some .boolean))
theorem m_X6_hasKing : MIn kX6_hasKing 2 := ⟨⟨⟨by decide +kernel, by decide +kernel, by decide +kernel⟩, tb_in 963 (by decide +kernel), tb_in 53 (by decide +kernel), Nat.le_of_ble_eq_true rfl⟩, tb_in 962 (by decide +kernel), tb_in 31 (by decide +kernel)⟩
def kX6_pass : Mth := (yX6_pass, cX6_pass, 1, (some .int))
theorem m_X6_pass : MIn kX6_pass 0 := ⟨⟨⟨by decide +kernel, by decide +kernel, by decide +kernel⟩, tb_in 967 (by decide +kernel), tb_in 53 (by decide +kernel), Nat.le_of_ble_eq_true rfl⟩, tb_in 965 (by decide +kernel), tb_in 966 (by decide +kernel)⟩
def kX6_undo : Mth := (yX6_undo, cX6_undo, 2, (some .int))
theorem m_X6_undo : MIn kX6_undo 0 := ⟨⟨⟨by decide +kernel, by decide +kernel, by decide +kernel⟩, tb_in 971 (by decide +kernel), tb_in 53 (by decide +kernel), Nat.le_of_ble_eq_true rfl⟩, tb_in 969 (by decide +kernel), tb_in 970 (by decide +kernel)⟩
def kX6_judge : Mth := (yX6_judge, cX6_judge, 5, (some .int))
theorem m_X6_judge : MIn kX6_judge 2 := ⟨⟨⟨by decide +kernel, by decide +kernel, by decide +kernel⟩, tb_in 975 (by decide +kernel), tb_in 53 (by decide +kernel), Nat.le_of_ble_eq_true rfl⟩, tb_in 973 (by decide +kernel), tb_in 974 (by decide +kernel)⟩
def kX6_tenTo : Mth := (yX6_tenTo, cX6_tenTo, 3, (some .int))
theorem m_X6_tenTo : MSn kX6_tenTo 1 := ⟨⟨⟨by decide +kernel, by decide +kernel, by decide +kernel⟩, tb_in 979 (by decide +kernel), tb_in 53 (by decide +kernel), Nat.le_of_ble_eq_true rfl⟩, tb_in 978 (by decide +kernel)⟩
def kX6_wins : Mth := (yX6_wins, cX6_wins, 2, (some .int))
theorem m_X6_wins : MIn kX6_wins 1 := ⟨⟨⟨by decide +kernel, by decide +kernel, by decide +kernel⟩, tb_in 983 (by decide +kernel), tb_in 53 (by decide +kernel), Nat.le_of_ble_eq_true rfl⟩, tb_in 981 (by decide +kernel), tb_in 982 (by decide +kernel)⟩
def kX6_layKeys : Mth := (yX6_layKeys, cX6_layKeys, 5, (some .int))
theorem m_X6_layKeys : MIn kX6_layKeys 1 := ⟨⟨⟨by decide +kernel, by decide +kernel, by decide +kernel⟩, tb_in 988 (by decide +kernel), tb_in 53 (by decide +kernel), Nat.le_of_ble_eq_true rfl⟩, tb_in 987 (by decide +kernel), tb_in 32 (by decide +kernel)⟩
def kX6_isKey : Mth := (yX6_isKey, cX6_isKey, 3, (some .boolean))
theorem m_X6_isKey : MIn kX6_isKey 2 := ⟨⟨⟨by decide +kernel, by decide +kernel, by decide +kernel⟩, tb_in 992 (by decide +kernel), tb_in 53 (by decide +kernel), Nat.le_of_ble_eq_true rfl⟩, tb_in 991 (by decide +kernel), tb_in 33 (by decide +kernel)⟩
def kX6_isDone : Mth := (yX6_isDone, cX6_isDone, 5, (some .boolean))
theorem m_X6_isDone : MIn kX6_isDone 1 := ⟨⟨⟨by decide +kernel, by decide +kernel, by decide +kernel⟩, tb_in 996 (by decide +kernel), tb_in 53 (by decide +kernel), Nat.le_of_ble_eq_true rfl⟩, tb_in 995 (by decide +kernel), tb_in 34 (by decide +kernel)⟩
def kX6_winsNow : Mth := (yX6_winsNow, cX6_winsNow, 5, (some .boolean))
theorem m_X6_winsNow : MIn kX6_winsNow 1 := ⟨⟨⟨by decide +kernel, by decide +kernel, by decide +kernel⟩, tb_in 1000 (by decide +kernel), tb_in 53 (by decide +kernel), Nat.le_of_ble_eq_true rfl⟩, tb_in 999 (by decide +kernel), tb_in 35 (by decide +kernel)⟩
def kX6_keys : Mth := (yX6_keys, cX6_keys, 2, (some .int))
theorem m_X6_keys : MIn kX6_keys 1 := ⟨⟨⟨by decide +kernel, by decide +kernel, by decide +kernel⟩, tb_in 1004 (by decide +kernel), tb_in 53 (by decide +kernel), Nat.le_of_ble_eq_true rfl⟩, tb_in 1002 (by decide +kernel), tb_in 1003 (by decide +kernel)⟩
def kX6_keyAt : Mth := (yX6_keyAt, cX6_keyAt, 4, (some .int))
theorem m_X6_keyAt : MIn kX6_keyAt 2 := ⟨⟨⟨by decide +kernel, by decide +kernel, by decide +kernel⟩, tb_in 1008 (by decide +kernel), tb_in 53 (by decide +kernel), Nat.le_of_ble_eq_true rfl⟩, tb_in 1006 (by decide +kernel), tb_in 1007 (by decide +kernel)⟩
def kX6_odds : Mth := (yX6_odds, cX6_odds, 5, (some .int))
theorem m_X6_odds : MIn kX6_odds 1 := ⟨⟨⟨by decide +kernel, by decide +kernel, by decide +kernel⟩, tb_in 1012 (by decide +kernel), tb_in 53 (by decide +kernel), Nat.le_of_ble_eq_true rfl⟩, tb_in 1010 (by decide +kernel), tb_in 1011 (by decide +kernel)⟩
def kX6_common : Mth := (yX6_common, cX6_common, 5, (some .int))
theorem m_X6_common : MSn kX6_common 2 := ⟨⟨⟨by decide +kernel, by decide +kernel, by decide +kernel⟩, tb_in 1015 (by decide +kernel), tb_in 53 (by decide +kernel), Nat.le_of_ble_eq_true rfl⟩, tb_in 1014 (by decide +kernel)⟩
def kX6_parts : Mth := (yX6_parts, cX6_parts, 1, (some .int))
theorem m_X6_parts : MIn kX6_parts 0 := ⟨⟨⟨by decide +kernel, by decide +kernel, by decide +kernel⟩, tb_in 1019 (by decide +kernel), tb_in 53 (by decide +kernel), Nat.le_of_ble_eq_true rfl⟩, tb_in 1017 (by decide +kernel), tb_in 1018 (by decide +kernel)⟩
def kX6_layParts : Mth := (yX6_layParts, cX6_layParts, 3, (some .int))
theorem m_X6_layParts : MIn kX6_layParts 0 := ⟨⟨⟨by decide +kernel, by decide +kernel, by decide +kernel⟩, tb_in 1023 (by decide +kernel), tb_in 53 (by decide +kernel), Nat.le_of_ble_eq_true rfl⟩, tb_in 1022 (by decide +kernel), tb_in 36 (by decide +kernel)⟩
def kX6_spread : Mth := (yX6_spread, cX6_spread, 7, none)
theorem m_X6_spread : MIn kX6_spread 2 := ⟨⟨⟨by decide +kernel, by decide +kernel, by decide +kernel⟩, tb_in 1027 (by decide +kernel), tb_in 53 (by decide +kernel), Nat.le_of_ble_eq_true rfl⟩, tb_in 1026 (by decide +kernel), tb_in 37 (by decide +kernel)⟩
def kX6_part : Mth := (yX6_part, cX6_part, 2, (some .int))
theorem m_X6_part : MIn kX6_part 1 := ⟨⟨⟨by decide +kernel, by decide +kernel, by decide +kernel⟩, tb_in 1031 (by decide +kernel), tb_in 53 (by decide +kernel), Nat.le_of_ble_eq_true rfl⟩, tb_in 1029 (by decide +kernel), tb_in 1030 (by decide +kernel)⟩
def kX6_comes : Mth := (yX6_comes, cX6_comes, 2, (some .int))
theorem m_X6_comes : MIn kX6_comes 1 := ⟨⟨⟨by decide +kernel, by decide +kernel, by decide +kernel⟩, tb_in 1035 (by decide +kernel), tb_in 53 (by decide +kernel), Nat.le_of_ble_eq_true rfl⟩, tb_in 1033 (by decide +kernel), tb_in 1034 (by decide +kernel)⟩
def kX6_comesTo : Mth := (yX6_comesTo, cX6_comesTo, 6, (some .int))
theorem m_X6_comesTo : MIn kX6_comesTo 1 := ⟨⟨⟨by decide +kernel, by decide +kernel, by decide +kernel⟩, tb_in 1039 (by decide +kernel), tb_in 53 (by decide +kernel), Nat.le_of_ble_eq_true rfl⟩, tb_in 1038 (by decide +kernel), tb_in 38 (by decide +kernel)⟩
def kX6_comesAt : Mth := (yX6_comesAt, cX6_comesAt, 3, (some .int))
theorem m_X6_comesAt : MIn kX6_comesAt 2 := ⟨⟨⟨by decide +kernel, by decide +kernel, by decide +kernel⟩, tb_in 1043 (by decide +kernel), tb_in 53 (by decide +kernel), Nat.le_of_ble_eq_true rfl⟩, tb_in 1041 (by decide +kernel), tb_in 1042 (by decide +kernel)⟩
def kX6_areFoes : Mth := (yX6_areFoes, cX6_areFoes, 4, (some .boolean))
theorem m_X6_areFoes : MIn kX6_areFoes 2 := ⟨⟨⟨by decide +kernel, by decide +kernel, by decide +kernel⟩, tb_in 1047 (by decide +kernel), tb_in 53 (by decide +kernel), Nat.le_of_ble_eq_true rfl⟩, tb_in 1046 (by decide +kernel), tb_in 39 (by decide +kernel)⟩
def kX6_canComeAt : Mth := (yX6_canComeAt, cX6_canComeAt, 7, (some .boolean))
theorem m_X6_canComeAt : MIn kX6_canComeAt 2 := ⟨⟨⟨by decide +kernel, by decide +kernel, by decide +kernel⟩, tb_in 1051 (by decide +kernel), tb_in 53 (by decide +kernel), Nat.le_of_ble_eq_true rfl⟩, tb_in 1050 (by decide +kernel), tb_in 40 (by decide +kernel)⟩
def kX6_shut : Mth := (yX6_shut, cX6_shut, 3, (some .int))
theorem m_X6_shut : MIn kX6_shut 0 := ⟨⟨⟨by decide +kernel, by decide +kernel, by decide +kernel⟩, tb_in 1055 (by decide +kernel), tb_in 53 (by decide +kernel), Nat.le_of_ble_eq_true rfl⟩, tb_in 1053 (by decide +kernel), tb_in 1054 (by decide +kernel)⟩
def kX6_ways : Mth := (yX6_ways, cX6_ways, 6, (some .int))
theorem m_X6_ways : MIn kX6_ways 2 := ⟨⟨⟨by decide +kernel, by decide +kernel, by decide +kernel⟩, tb_in 1059 (by decide +kernel), tb_in 53 (by decide +kernel), Nat.le_of_ble_eq_true rfl⟩, tb_in 1057 (by decide +kernel), tb_in 1058 (by decide +kernel)⟩
def kX6_oneWay : Mth := (yX6_oneWay, cX6_oneWay, 6, (some .int))
theorem m_X6_oneWay : MIn kX6_oneWay 2 := ⟨⟨⟨by decide +kernel, by decide +kernel, by decide +kernel⟩, tb_in 1064 (by decide +kernel), tb_in 53 (by decide +kernel), Nat.le_of_ble_eq_true rfl⟩, tb_in 1063 (by decide +kernel), tb_in 41 (by decide +kernel)⟩
def kX6_isLike : Mth := (yX6_isLike, cX6_isLike, 5, (some .boolean))
theorem m_X6_isLike : MIn kX6_isLike 2 := ⟨⟨⟨by decide +kernel, by decide +kernel, by decide +kernel⟩, tb_in 1068 (by decide +kernel), tb_in 53 (by decide +kernel), Nat.le_of_ble_eq_true rfl⟩, tb_in 1067 (by decide +kernel), tb_in 42 (by decide +kernel)⟩
def kX6_twoWays : Mth := (yX6_twoWays, cX6_twoWays, 6, (some .int))
theorem m_X6_twoWays : MIn kX6_twoWays 2 := ⟨⟨⟨by decide +kernel, by decide +kernel, by decide +kernel⟩, tb_in 1072 (by decide +kernel), tb_in 53 (by decide +kernel), Nat.le_of_ble_eq_true rfl⟩, tb_in 1071 (by decide +kernel), tb_in 43 (by decide +kernel)⟩
def kX6_seed : Mth := (yX6_seed, cX6_seed, 5, (some .long))
theorem m_X6_seed : MIn kX6_seed 1 := ⟨⟨⟨by decide +kernel, by decide +kernel, by decide +kernel⟩, tb_in 1076 (by decide +kernel), tb_in 53 (by decide +kernel), Nat.le_of_ble_eq_true rfl⟩, tb_in 1074 (by decide +kernel), tb_in 1075 (by decide +kernel)⟩
def kX6_play : Mth := (yX6_play, cX6_play, 5, (some .int))
theorem m_X6_play : MIn kX6_play 1 := ⟨⟨⟨by decide +kernel, by decide +kernel, by decide +kernel⟩, tb_in 1080 (by decide +kernel), tb_in 53 (by decide +kernel), Nat.le_of_ble_eq_true rfl⟩, tb_in 1078 (by decide +kernel), tb_in 1079 (by decide +kernel)⟩
def kX6_men : Mth := (yX6_men, cX6_men, 4, (some .int))
theorem m_X6_men : MIn kX6_men 1 := ⟨⟨⟨by decide +kernel, by decide +kernel, by decide +kernel⟩, tb_in 1087 (by decide +kernel), tb_in 53 (by decide +kernel), Nat.le_of_ble_eq_true rfl⟩, tb_in 1086 (by decide +kernel), tb_in 44 (by decide +kernel)⟩
def kX6_keep : Mth := (yX6_keep, cX6_keep, 3, (some .int))
theorem m_X6_keep : MIn kX6_keep 1 := ⟨⟨⟨by decide +kernel, by decide +kernel, by decide +kernel⟩, tb_in 1091 (by decide +kernel), tb_in 53 (by decide +kernel), Nat.le_of_ble_eq_true rfl⟩, tb_in 1089 (by decide +kernel), tb_in 1090 (by decide +kernel)⟩
def kX6_again : Mth := (yX6_again, cX6_again, 3, (some .int))
theorem m_X6_again : MIn kX6_again 1 := ⟨⟨⟨by decide +kernel, by decide +kernel, by decide +kernel⟩, tb_in 1095 (by decide +kernel), tb_in 53 (by decide +kernel), Nat.le_of_ble_eq_true rfl⟩, tb_in 1093 (by decide +kernel), tb_in 1094 (by decide +kernel)⟩
def kX6_count : Mth := (yX6_count, cX6_count, 4, (some .int))
theorem m_X6_count : MIn kX6_count 1 := ⟨⟨⟨by decide +kernel, by decide +kernel, by decide +kernel⟩, tb_in 1099 (by decide +kernel), tb_in 53 (by decide +kernel), Nat.le_of_ble_eq_true rfl⟩, tb_in 1097 (by decide +kernel), tb_in 1098 (by decide +kernel)⟩
def kX6_setOf : Mth := (yX6_setOf, cX6_setOf, 4, (some .int))
theorem m_X6_setOf : MIn kX6_setOf 1 := ⟨⟨⟨by decide +kernel, by decide +kernel, by decide +kernel⟩, tb_in 1103 (by decide +kernel), tb_in 53 (by decide +kernel), Nat.le_of_ble_eq_true rfl⟩, tb_in 1102 (by decide +kernel), tb_in 45 (by decide +kernel)⟩
def kJ0_indexOf_0f7a4 : Mth := (yJ0_indexOf_0f7a4, cJ0_indexOf_0f7a4, 2, (some .int))
theorem m_J0_indexOf_0f7a4 : MIn kJ0_indexOf_0f7a4 1 := ⟨⟨⟨by decide +kernel, by decide +kernel, by decide +kernel⟩, tb_in 325 (by decide +kernel), tb_in 54 (by decide +kernel), Nat.le_of_ble_eq_true rfl⟩, tb_in 323 (by decide +kernel), tb_in 324 (by decide +kernel)⟩
def kJ0_indexOf_7cf53 : Mth := (yJ0_indexOf_7cf53, cJ0_indexOf_7cf53, 3, (some .int))
theorem m_J0_indexOf_7cf53 : MIn kJ0_indexOf_7cf53 2 := ⟨⟨⟨by decide +kernel, by decide +kernel, by decide +kernel⟩, tb_in 329 (by decide +kernel), tb_in 54 (by decide +kernel), Nat.le_of_ble_eq_true rfl⟩, tb_in 327 (by decide +kernel), tb_in 328 (by decide +kernel)⟩
def kJ0_isLatin1_aae02 : Mth := (yJ0_isLatin1_aae02, cJ0_isLatin1_aae02, 1, (some .boolean))
theorem m_J0_isLatin1_aae02 : MIn kJ0_isLatin1_aae02 0 := ⟨⟨⟨by decide +kernel, by decide +kernel, by decide +kernel⟩, tb_in 333 (by decide +kernel), tb_in 54 (by decide +kernel), Nat.le_of_ble_eq_true rfl⟩, tb_in 331 (by decide +kernel), tb_in 332 (by decide +kernel)⟩
def kJ0_length_8abf5 : Mth := (yJ0_length_8abf5, cJ0_length_8abf5, 1, (some .int))
theorem m_J0_length_8abf5 : MIn kJ0_length_8abf5 0 := ⟨⟨⟨by decide +kernel, by decide +kernel, by decide +kernel⟩, tb_in 339 (by decide +kernel), tb_in 54 (by decide +kernel), Nat.le_of_ble_eq_true rfl⟩, tb_in 337 (by decide +kernel), tb_in 338 (by decide +kernel)⟩
def kJ0_coder_7d493 : Mth := (yJ0_coder_7d493, cJ0_coder_7d493, 1, (some .byte))
theorem m_J0_coder_7d493 : MIn kJ0_coder_7d493 0 := ⟨⟨⟨by decide +kernel, by decide +kernel, by decide +kernel⟩, tb_in 343 (by decide +kernel), tb_in 54 (by decide +kernel), Nat.le_of_ble_eq_true rfl⟩, tb_in 341 (by decide +kernel), tb_in 342 (by decide +kernel)⟩
def kJ1_indexOf_4cfef : Mth := (yJ1_indexOf_4cfef, cJ1_indexOf_4cfef, 4, (some .int))
theorem m_J1_indexOf_4cfef : MSn kJ1_indexOf_4cfef 4 := ⟨⟨⟨by decide +kernel, by decide +kernel, by decide +kernel⟩, tb_in 346 (by decide +kernel), tb_in 55 (by decide +kernel), Nat.le_of_ble_eq_true rfl⟩, tb_in 345 (by decide +kernel)⟩
def kJ1_canEncode_9a6ad : Mth := (yJ1_canEncode_9a6ad, cJ1_canEncode_9a6ad, 1, (some .boolean))
theorem m_J1_canEncode_9a6ad : MSn kJ1_canEncode_9a6ad 1 := ⟨⟨⟨by decide +kernel, by decide +kernel, by decide +kernel⟩, tb_in 349 (by decide +kernel), tb_in 55 (by decide +kernel), Nat.le_of_ble_eq_true rfl⟩, tb_in 348 (by decide +kernel)⟩
def kJ1_indexOfChar_4cfef : Mth := (yJ1_indexOfChar_4cfef, cJ1_indexOfChar_4cfef, 6, (some .int))
theorem m_J1_indexOfChar_4cfef : MSn kJ1_indexOfChar_4cfef 4 := ⟨⟨⟨by decide +kernel, by decide +kernel, by decide +kernel⟩, tb_in 358 (by decide +kernel), tb_in 55 (by decide +kernel), Nat.le_of_ble_eq_true rfl⟩, tb_in 357 (by decide +kernel)⟩
def kJ0_charAt_5068e : Mth := (yJ0_charAt_5068e, cJ0_charAt_5068e, 2, (some .char))
theorem m_J0_charAt_5068e : MIn kJ0_charAt_5068e 1 := ⟨⟨⟨by decide +kernel, by decide +kernel, by decide +kernel⟩, tb_in 478 (by decide +kernel), tb_in 54 (by decide +kernel), Nat.le_of_ble_eq_true rfl⟩, tb_in 476 (by decide +kernel), tb_in 477 (by decide +kernel)⟩
def kJ1_charAt_3b067 : Mth := (yJ1_charAt_3b067, cJ1_charAt_3b067, 2, (some .char))
theorem m_J1_charAt_3b067 : MSn kJ1_charAt_3b067 2 := ⟨⟨⟨by decide +kernel, by decide +kernel, by decide +kernel⟩, tb_in 481 (by decide +kernel), tb_in 55 (by decide +kernel), Nat.le_of_ble_eq_true rfl⟩, tb_in 480 (by decide +kernel)⟩
def kJ0_checkIndex_df160 : Mth := (yJ0_checkIndex_df160, cJ0_checkIndex_df160, 2, none)
theorem m_J0_checkIndex_df160 : MSn kJ0_checkIndex_df160 2 := ⟨⟨⟨by decide +kernel, by decide +kernel, by decide +kernel⟩, tb_in 484 (by decide +kernel), tb_in 54 (by decide +kernel), Nat.le_of_ble_eq_true rfl⟩, tb_in 483 (by decide +kernel)⟩
def kJ3_checkIndex_8e157 : Mth := (yJ3_checkIndex_8e157, cJ3_checkIndex_8e157, 3, (some .int))
theorem m_J3_checkIndex_8e157 : MSn kJ3_checkIndex_8e157 3 := ⟨⟨⟨by decide +kernel, by decide +kernel, by decide +kernel⟩, tb_in 487 (by decide +kernel), tb_in 58 (by decide +kernel), Nat.le_of_ble_eq_true rfl⟩, tb_in 486 (by decide +kernel)⟩
def kJ6_bitCount_0f7a4 : Mth := (yJ6_bitCount_0f7a4, cJ6_bitCount_0f7a4, 1, (some .int))
theorem m_J6_bitCount_0f7a4 : MSn kJ6_bitCount_0f7a4 1 := ⟨⟨⟨by decide +kernel, by decide +kernel, by decide +kernel⟩, tb_in 648 (by decide +kernel), tb_in 60 (by decide +kernel), Nat.le_of_ble_eq_true rfl⟩, tb_in 647 (by decide +kernel)⟩
def kJ13_bitCount_95d88 : Mth := (yJ13_bitCount_95d88, cJ13_bitCount_95d88, 2, (some .int))
theorem m_J13_bitCount_95d88 : MSn kJ13_bitCount_95d88 1 := ⟨⟨⟨by decide +kernel, by decide +kernel, by decide +kernel⟩, tb_in 749 (by decide +kernel), tb_in 61 (by decide +kernel), Nat.le_of_ble_eq_true rfl⟩, tb_in 748 (by decide +kernel)⟩
theorem lf_X5_12 : LF RX5 12 5 0 := ⟨Nat.le_of_ble_eq_true rfl, Nat.le_of_ble_eq_true rfl, rfl, Or.inl (tb_in 248 (by decide +kernel))⟩
theorem lf_X5_19 : LF RX5 19 5 1 := ⟨Nat.le_of_ble_eq_true rfl, Nat.le_of_ble_eq_true rfl, rfl, Or.inl (tb_in 249 (by decide +kernel))⟩
theorem lf_X5_28 : LF RX5 28 5 2 := ⟨Nat.le_of_ble_eq_true rfl, Nat.le_of_ble_eq_true rfl, rfl, Or.inl (tb_in 250 (by decide +kernel))⟩
theorem lf_X5_32 : LF RX5 32 5 3 := ⟨Nat.le_of_ble_eq_true rfl, Nat.le_of_ble_eq_true rfl, rfl, Or.inl (tb_in 251 (by decide +kernel))⟩
theorem lf_X5_35 : LF RX5 35 5 4 := ⟨Nat.le_of_ble_eq_true rfl, Nat.le_of_ble_eq_true rfl, rfl, Or.inl (tb_in 252 (by decide +kernel))⟩
theorem lf_X5_41 : LF RX5 41 5 5 := ⟨Nat.le_of_ble_eq_true rfl, Nat.le_of_ble_eq_true rfl, rfl, Or.inl (tb_in 253 (by decide +kernel))⟩
theorem lf_X5_50 : LF RX5 50 5 6 := ⟨Nat.le_of_ble_eq_true rfl, Nat.le_of_ble_eq_true rfl, rfl, Or.inl (tb_in 254 (by decide +kernel))⟩
theorem lf_X5_54 : LF RX5 54 5 7 := ⟨Nat.le_of_ble_eq_true rfl, Nat.le_of_ble_eq_true rfl, rfl, Or.inl (tb_in 255 (by decide +kernel))⟩
theorem lf_X0_11 : LF RX0 11 0 0 := ⟨Nat.le_of_ble_eq_true rfl, Nat.le_of_ble_eq_true rfl, rfl, Or.inl (tb_in 91 (by decide +kernel))⟩
theorem lf_X0_15 : LF RX0 15 0 1 := ⟨Nat.le_of_ble_eq_true rfl, Nat.le_of_ble_eq_true rfl, rfl, Or.inl (tb_in 92 (by decide +kernel))⟩
theorem lf_X0_18 : LF RX0 18 0 2 := ⟨Nat.le_of_ble_eq_true rfl, Nat.le_of_ble_eq_true rfl, rfl, Or.inl (tb_in 93 (by decide +kernel))⟩
theorem lf_X0_21 : LF RX0 21 0 3 := ⟨Nat.le_of_ble_eq_true rfl, Nat.le_of_ble_eq_true rfl, rfl, Or.inl (tb_in 94 (by decide +kernel))⟩
theorem lf_X0_24 : LF RX0 24 0 4 := ⟨Nat.le_of_ble_eq_true rfl, Nat.le_of_ble_eq_true rfl, rfl, Or.inl (tb_in 95 (by decide +kernel))⟩
theorem lf_X0_27 : LF RX0 27 0 5 := ⟨Nat.le_of_ble_eq_true rfl, Nat.le_of_ble_eq_true rfl, rfl, Or.inl (tb_in 96 (by decide +kernel))⟩
theorem lf_X0_31 : LF RX0 31 0 6 := ⟨Nat.le_of_ble_eq_true rfl, Nat.le_of_ble_eq_true rfl, rfl, Or.inl (tb_in 98 (by decide +kernel))⟩
theorem lf_X0_34 : LF RX0 34 0 7 := ⟨Nat.le_of_ble_eq_true rfl, Nat.le_of_ble_eq_true rfl, rfl, Or.inl (tb_in 100 (by decide +kernel))⟩
theorem lf_X0_37 : LF RX0 37 0 8 := ⟨Nat.le_of_ble_eq_true rfl, Nat.le_of_ble_eq_true rfl, rfl, Or.inl (tb_in 102 (by decide +kernel))⟩
theorem lf_X1_14 : LF RX1 14 1 0 := ⟨Nat.le_of_ble_eq_true rfl, Nat.le_of_ble_eq_true rfl, rfl, Or.inl (tb_in 202 (by decide +kernel))⟩
theorem lf_X1_20 : LF RX1 20 1 1 := ⟨Nat.le_of_ble_eq_true rfl, Nat.le_of_ble_eq_true rfl, rfl, Or.inl (tb_in 203 (by decide +kernel))⟩
theorem lf_X1_24 : LF RX1 24 1 2 := ⟨Nat.le_of_ble_eq_true rfl, Nat.le_of_ble_eq_true rfl, rfl, Or.inl (tb_in 204 (by decide +kernel))⟩
theorem lf_X2_9 : LF RX2 9 2 1 := ⟨Nat.le_of_ble_eq_true rfl, Nat.le_of_ble_eq_true rfl, rfl, Or.inl (tb_in 133 (by decide +kernel))⟩
theorem lf_X2_15 : LF RX2 15 2 2 := ⟨Nat.le_of_ble_eq_true rfl, Nat.le_of_ble_eq_true rfl, rfl, Or.inl (tb_in 134 (by decide +kernel))⟩
theorem lf_X2_19 : LF RX2 19 2 3 := ⟨Nat.le_of_ble_eq_true rfl, Nat.le_of_ble_eq_true rfl, rfl, Or.inl (tb_in 135 (by decide +kernel))⟩
theorem lf_X2_23 : LF RX2 23 2 4 := ⟨Nat.le_of_ble_eq_true rfl, Nat.le_of_ble_eq_true rfl, rfl, Or.inl (tb_in 137 (by decide +kernel))⟩
theorem lf_X2_26 : LF RX2 26 2 5 := ⟨Nat.le_of_ble_eq_true rfl, Nat.le_of_ble_eq_true rfl, rfl, Or.inl (tb_in 139 (by decide +kernel))⟩
theorem lf_X2_29 : LF RX2 29 2 6 := ⟨Nat.le_of_ble_eq_true rfl, Nat.le_of_ble_eq_true rfl, rfl, Or.inl (tb_in 141 (by decide +kernel))⟩
theorem lf_X2_32 : LF RX2 32 2 7 := ⟨Nat.le_of_ble_eq_true rfl, Nat.le_of_ble_eq_true rfl, rfl, Or.inl (tb_in 143 (by decide +kernel))⟩
theorem lf_X2_35 : LF RX2 35 2 8 := ⟨Nat.le_of_ble_eq_true rfl, Nat.le_of_ble_eq_true rfl, rfl, Or.inl (tb_in 145 (by decide +kernel))⟩
theorem lf_X2_38 : LF RX2 38 2 9 := ⟨Nat.le_of_ble_eq_true rfl, Nat.le_of_ble_eq_true rfl, rfl, Or.inl (tb_in 147 (by decide +kernel))⟩
theorem lf_X2_41 : LF RX2 41 2 10 := ⟨Nat.le_of_ble_eq_true rfl, Nat.le_of_ble_eq_true rfl, rfl, Or.inl (tb_in 150 (by decide +kernel))⟩
theorem lf_X2_44 : LF RX2 44 2 0 := ⟨Nat.le_of_ble_eq_true rfl, Nat.le_of_ble_eq_true rfl, rfl, Or.inl (tb_in 131 (by decide +kernel))⟩
theorem lf_X3_9 : LF RX3 9 3 0 := ⟨Nat.le_of_ble_eq_true rfl, Nat.le_of_ble_eq_true rfl, rfl, Or.inl (tb_in 188 (by decide +kernel))⟩
theorem lf_X3_15 : LF RX3 15 3 1 := ⟨Nat.le_of_ble_eq_true rfl, Nat.le_of_ble_eq_true rfl, rfl, Or.inl (tb_in 189 (by decide +kernel))⟩
theorem lf_X3_18 : LF RX3 18 3 2 := ⟨Nat.le_of_ble_eq_true rfl, Nat.le_of_ble_eq_true rfl, rfl, Or.inl (tb_in 190 (by decide +kernel))⟩
theorem lf_X3_22 : LF RX3 22 3 3 := ⟨Nat.le_of_ble_eq_true rfl, Nat.le_of_ble_eq_true rfl, rfl, Or.inl (tb_in 191 (by decide +kernel))⟩
theorem lf_X4_9 : LF RX4 9 4 0 := ⟨Nat.le_of_ble_eq_true rfl, Nat.le_of_ble_eq_true rfl, rfl, Or.inl (tb_in 76 (by decide +kernel))⟩
theorem lf_X4_15 : LF RX4 15 4 1 := ⟨Nat.le_of_ble_eq_true rfl, Nat.le_of_ble_eq_true rfl, rfl, Or.inl (tb_in 77 (by decide +kernel))⟩
theorem lf_X6_7 : LF RX6 7 6 3 := ⟨Nat.le_of_ble_eq_true rfl, Nat.le_of_ble_eq_true rfl, rfl, Or.inl (tb_in 793 (by decide +kernel))⟩
theorem lf_X6_13 : LF RX6 13 6 4 := ⟨Nat.le_of_ble_eq_true rfl, Nat.le_of_ble_eq_true rfl, rfl, Or.inl (tb_in 794 (by decide +kernel))⟩
theorem lf_X6_16 : LF RX6 16 6 5 := ⟨Nat.le_of_ble_eq_true rfl, Nat.le_of_ble_eq_true rfl, rfl, Or.inl (tb_in 795 (by decide +kernel))⟩
theorem lf_X6_19 : LF RX6 19 6 6 := ⟨Nat.le_of_ble_eq_true rfl, Nat.le_of_ble_eq_true rfl, rfl, Or.inl (tb_in 796 (by decide +kernel))⟩
theorem lf_X6_22 : LF RX6 22 6 7 := ⟨Nat.le_of_ble_eq_true rfl, Nat.le_of_ble_eq_true rfl, rfl, Or.inl (tb_in 797 (by decide +kernel))⟩
theorem lf_X6_25 : LF RX6 25 6 9 := ⟨Nat.le_of_ble_eq_true rfl, Nat.le_of_ble_eq_true rfl, rfl, Or.inl (tb_in 799 (by decide +kernel))⟩
theorem lf_X6_28 : LF RX6 28 6 10 := ⟨Nat.le_of_ble_eq_true rfl, Nat.le_of_ble_eq_true rfl, rfl, Or.inl (tb_in 800 (by decide +kernel))⟩
theorem lf_X6_31 : LF RX6 31 6 13 := ⟨Nat.le_of_ble_eq_true rfl, Nat.le_of_ble_eq_true rfl, rfl, Or.inl (tb_in 803 (by decide +kernel))⟩
theorem lf_X6_34 : LF RX6 34 6 14 := ⟨Nat.le_of_ble_eq_true rfl, Nat.le_of_ble_eq_true rfl, rfl, Or.inl (tb_in 804 (by decide +kernel))⟩
theorem lf_X6_37 : LF RX6 37 6 15 := ⟨Nat.le_of_ble_eq_true rfl, Nat.le_of_ble_eq_true rfl, rfl, Or.inl (tb_in 805 (by decide +kernel))⟩
theorem lf_X6_40 : LF RX6 40 6 17 := ⟨Nat.le_of_ble_eq_true rfl, Nat.le_of_ble_eq_true rfl, rfl, Or.inl (tb_in 807 (by decide +kernel))⟩
theorem lf_X6_44 : LF RX6 44 6 18 := ⟨Nat.le_of_ble_eq_true rfl, Nat.le_of_ble_eq_true rfl, rfl, Or.inl (tb_in 808 (by decide +kernel))⟩
theorem lf_X6_47 : LF RX6 47 6 0 := ⟨Nat.le_of_ble_eq_true rfl, Nat.le_of_ble_eq_true rfl, rfl, Or.inl (tb_in 790 (by decide +kernel))⟩
theorem lf_X6_51 : LF RX6 51 6 1 := ⟨Nat.le_of_ble_eq_true rfl, Nat.le_of_ble_eq_true rfl, rfl, Or.inl (tb_in 791 (by decide +kernel))⟩
theorem lf_X6_60 : LF RX6 60 6 8 := ⟨Nat.le_of_ble_eq_true rfl, Nat.le_of_ble_eq_true rfl, rfl, Or.inl (tb_in 798 (by decide +kernel))⟩
theorem lf_X6_88 : LF RX6 88 6 2 := ⟨Nat.le_of_ble_eq_true rfl, Nat.le_of_ble_eq_true rfl, rfl, Or.inl (tb_in 792 (by decide +kernel))⟩
theorem lf_X6_91 : LF RX6 91 6 11 := ⟨Nat.le_of_ble_eq_true rfl, Nat.le_of_ble_eq_true rfl, rfl, Or.inl (tb_in 801 (by decide +kernel))⟩
theorem lf_X6_133 : LF RX6 133 6 12 := ⟨Nat.le_of_ble_eq_true rfl, Nat.le_of_ble_eq_true rfl, rfl, Or.inl (tb_in 802 (by decide +kernel))⟩
theorem lf_X6_195 : LF RX6 195 6 16 := ⟨Nat.le_of_ble_eq_true rfl, Nat.le_of_ble_eq_true rfl, rfl, Or.inl (tb_in 806 (by decide +kernel))⟩
theorem lf_X5_62 : LF RX5 62 4 1 := ⟨Nat.le_of_ble_eq_true rfl, Nat.le_of_ble_eq_true rfl, rfl, Or.inr (by decide +kernel)⟩
theorem lf_X5_86 : LF RX5 86 0 8 := ⟨Nat.le_of_ble_eq_true rfl, Nat.le_of_ble_eq_true rfl, rfl, Or.inr (by decide +kernel)⟩
theorem lf_X5_100 : LF RX5 100 2 9 := ⟨Nat.le_of_ble_eq_true rfl, Nat.le_of_ble_eq_true rfl, rfl, Or.inr (by decide +kernel)⟩
theorem lf_X5_115 : LF RX5 115 2 7 := ⟨Nat.le_of_ble_eq_true rfl, Nat.le_of_ble_eq_true rfl, rfl, Or.inr (by decide +kernel)⟩
theorem lf_X5_146 : LF RX5 146 0 7 := ⟨Nat.le_of_ble_eq_true rfl, Nat.le_of_ble_eq_true rfl, rfl, Or.inr (by decide +kernel)⟩
theorem lf_X5_154 : LF RX5 154 1 2 := ⟨Nat.le_of_ble_eq_true rfl, Nat.le_of_ble_eq_true rfl, rfl, Or.inr (by decide +kernel)⟩
theorem lf_X5_173 : LF RX5 173 2 8 := ⟨Nat.le_of_ble_eq_true rfl, Nat.le_of_ble_eq_true rfl, rfl, Or.inr (by decide +kernel)⟩
theorem lf_X5_195 : LF RX5 195 2 5 := ⟨Nat.le_of_ble_eq_true rfl, Nat.le_of_ble_eq_true rfl, rfl, Or.inr (by decide +kernel)⟩
theorem lf_X5_198 : LF RX5 198 2 6 := ⟨Nat.le_of_ble_eq_true rfl, Nat.le_of_ble_eq_true rfl, rfl, Or.inr (by decide +kernel)⟩
theorem lf_X5_225 : LF RX5 225 0 5 := ⟨Nat.le_of_ble_eq_true rfl, Nat.le_of_ble_eq_true rfl, rfl, Or.inr (by decide +kernel)⟩
theorem lf_X5_227 : LF RX5 227 0 6 := ⟨Nat.le_of_ble_eq_true rfl, Nat.le_of_ble_eq_true rfl, rfl, Or.inr (by decide +kernel)⟩
theorem lf_X5_229 : LF RX5 229 2 10 := ⟨Nat.le_of_ble_eq_true rfl, Nat.le_of_ble_eq_true rfl, rfl, Or.inr (by decide +kernel)⟩
theorem lf_X5_252 : LF RX5 252 2 0 := ⟨Nat.le_of_ble_eq_true rfl, Nat.le_of_ble_eq_true rfl, rfl, Or.inr (by decide +kernel)⟩
theorem lf_X2_99 : LF RX2 99 0 8 := ⟨Nat.le_of_ble_eq_true rfl, Nat.le_of_ble_eq_true rfl, rfl, Or.inr (by decide +kernel)⟩
theorem lf_X3_29 : LF RX3 29 2 3 := ⟨Nat.le_of_ble_eq_true rfl, Nat.le_of_ble_eq_true rfl, rfl, Or.inr (by decide +kernel)⟩
theorem lf_X3_34 : LF RX3 34 2 4 := ⟨Nat.le_of_ble_eq_true rfl, Nat.le_of_ble_eq_true rfl, rfl, Or.inr (by decide +kernel)⟩
theorem lf_X3_36 : LF RX3 36 2 9 := ⟨Nat.le_of_ble_eq_true rfl, Nat.le_of_ble_eq_true rfl, rfl, Or.inr (by decide +kernel)⟩
theorem lf_X3_40 : LF RX3 40 2 10 := ⟨Nat.le_of_ble_eq_true rfl, Nat.le_of_ble_eq_true rfl, rfl, Or.inr (by decide +kernel)⟩
theorem lm_X5_58 : LM RX5 58 kX0_shape := Or.inl (tb_in 215 (by decide +kernel))
theorem lm_X5_66 : LM RX5 66 kX4_add := Or.inl (tb_in 277 (by decide +kernel))
theorem lm_X5_70 : LM RX5 70 kX4_firstFault := Or.inl (tb_in 289 (by decide +kernel))
theorem lm_X5_74 : LM RX5 74 kX4_width := Or.inl (tb_in 412 (by decide +kernel))
theorem lm_X5_77 : LM RX5 77 kX4_height := Or.inl (tb_in 413 (by decide +kernel))
theorem lm_X5_80 : LM RX5 80 kX4_last := Or.inl (tb_in 414 (by decide +kernel))
theorem lm_X5_83 : LM RX5 83 kX2_clear := Or.inl (tb_in 418 (by decide +kernel))
theorem lm_X5_89 : LM RX5 89 kX4_signOf := Or.inl (tb_in 444 (by decide +kernel))
theorem lm_X5_93 : LM RX5 93 kX2_put := Or.inl (tb_in 445 (by decide +kernel))
theorem lm_X5_97 : LM RX5 97 kX4_side := Or.inl (tb_in 446 (by decide +kernel))
theorem lm_X5_103 : LM RX5 103 kX1_clear := Or.inl (tb_in 450 (by decide +kernel))
theorem lm_X5_104 : LM RX5 104 kX3_clear := Or.inl (tb_in 454 (by decide +kernel))
theorem lm_X5_105 : LM RX5 105 kX5_isCell := Or.inl (tb_in 462 (by decide +kernel))
theorem lm_X5_109 : LM RX5 109 kX2_sign := Or.inl (tb_in 466 (by decide +kernel))
theorem lm_X5_112 : LM RX5 112 kX5_letter := Or.inl (tb_in 470 (by decide +kernel))
theorem lm_X5_118 : LM RX5 118 kX5_has := Or.inl (tb_in 499 (by decide +kernel))
theorem lm_X5_122 : LM RX5 122 kX2_lying := Or.inl (tb_in 502 (by decide +kernel))
theorem lm_X5_125 : LM RX5 125 kX2_full := Or.inl (tb_in 510 (by decide +kernel))
theorem lm_X5_128 : LM RX5 128 kX0_aimed := Or.inl (tb_in 514 (by decide +kernel))
theorem lm_X5_132 : LM RX5 132 kX2_reach := Or.inl (tb_in 529 (by decide +kernel))
theorem lm_X5_136 : LM RX5 136 kX2_list := Or.inl (tb_in 548 (by decide +kernel))
theorem lm_X5_140 : LM RX5 140 kX5_may := Or.inl (tb_in 567 (by decide +kernel))
theorem lm_X5_144 : LM RX5 144 kX1_add := Or.inl (tb_in 572 (by decide +kernel))
theorem lm_X5_148 : LM RX5 148 kX2_make := Or.inl (tb_in 584 (by decide +kernel))
theorem lm_X5_151 : LM RX5 151 kX2_ply := Or.inl (tb_in 601 (by decide +kernel))
theorem lm_X5_157 : LM RX5 157 kX1_takeLast := Or.inl (tb_in 610 (by decide +kernel))
theorem lm_X5_160 : LM RX5 160 kX2_copy := Or.inl (tb_in 627 (by decide +kernel))
theorem lm_X5_163 : LM RX5 163 kX5_refusedAhead := Or.inl (tb_in 635 (by decide +kernel))
theorem lm_X5_166 : LM RX5 166 kX5_isForced := Or.inl (tb_in 639 (by decide +kernel))
theorem lm_X5_170 : LM RX5 170 kX5_listKeys := Or.inl (tb_in 662 (by decide +kernel))
theorem lm_X5_176 : LM RX5 176 kX2_men := Or.inl (tb_in 571 (by decide +kernel))
theorem lm_X5_179 : LM RX5 179 kX5_greatestCommon := Or.inl (tb_in 675 (by decide +kernel))
theorem lm_X5_183 : LM RX5 183 kX5_partsAheadOf := Or.inl (tb_in 682 (by decide +kernel))
theorem lm_X5_186 : LM RX5 186 kX0_coming := Or.inl (tb_in 706 (by decide +kernel))
theorem lm_X5_189 : LM RX5 189 kX5_sideOf := Or.inl (tb_in 716 (by decide +kernel))
theorem lm_X5_192 : LM RX5 192 kX5_canComeAt := Or.inl (tb_in 717 (by decide +kernel))
theorem lm_X5_201 : LM RX5 201 kX5_isSlot := Or.inl (tb_in 734 (by decide +kernel))
theorem lm_X5_204 : LM RX5 204 kX3_holds := Or.inl (tb_in 737 (by decide +kernel))
theorem lm_X5_207 : LM RX5 207 kX3_get := Or.inl (tb_in 738 (by decide +kernel))
theorem lm_X5_211 : LM RX5 211 kX5_rowsTo := Or.inl (tb_in 739 (by decide +kernel))
theorem lm_X5_219 : LM RX5 219 kX2_menCount := Or.inl (tb_in 767 (by decide +kernel))
theorem lm_X5_222 : LM RX5 222 kX3_set := Or.inl (tb_in 775 (by decide +kernel))
theorem lm_X5_232 : LM RX5 232 kX2_follow := Or.inl (tb_in 652 (by decide +kernel))
theorem lm_X5_236 : LM RX5 236 kX2_setPly := Or.inl (tb_in 666 (by decide +kernel))
theorem lm_X5_239 : LM RX5 239 kX0_all := Or.inl (tb_in 686 (by decide +kernel))
theorem lm_X5_242 : LM RX5 242 kX0_hanging := Or.inl (tb_in 690 (by decide +kernel))
theorem lm_X5_245 : LM RX5 245 kX0_threatened := Or.inl (tb_in 721 (by decide +kernel))
theorem lm_X5_248 : LM RX5 248 kX2_canFellLast := Or.inl (tb_in 642 (by decide +kernel))
theorem lm_X5_255 : LM RX5 255 kX2_differing := Or.inl (tb_in 742 (by decide +kernel))
theorem lm_X5_259 : LM RX5 259 kX2_isAs := Or.inl (tb_in 753 (by decide +kernel))
theorem lm_X5_263 : LM RX5 263 kJ6_bitCount_0f7a4 := Or.inl (tb_in 697 (by decide +kernel))
theorem lm_X5_270 : LM RX5 270 kJ0_length_8abf5 := Or.inl (tb_in 474 (by decide +kernel))
theorem lm_X5_274 : LM RX5 274 kJ0_charAt_5068e := Or.inl (tb_in 475 (by decide +kernel))
theorem lm_X0_40 : LM RX0 40 kX0_surround := Or.inl (tb_in 219 (by decide +kernel))
theorem lm_X0_44 : LM RX0 44 kX0_lookAhead := Or.inl (tb_in 244 (by decide +kernel))
theorem lm_X0_55 : LM RX0 55 kX0_lines := Or.inl (tb_in 519 (by decide +kernel))
theorem lm_X0_65 : LM RX0 65 kX0_aimed := Or.inl (tb_in 710 (by decide +kernel))
theorem lm_X0_68 : LM RX0 68 kX0_going := Or.inl (tb_in 711 (by decide +kernel))
theorem lm_X0_71 : LM RX0 71 kX0_coming := Or.inl (tb_in 725 (by decide +kernel))
theorem lm_X0_84 : LM RX0 84 kX0_cellAt := Or.inl (tb_in 230 (by decide +kernel))
theorem lm_X0_92 : LM RX0 92 kX0_bitOf := Or.inl (tb_in 237 (by decide +kernel))
theorem lm_X1_27 : LM RX1 27 kX3_set := Or.inl (tb_in 576 (by decide +kernel))
theorem lm_X1_31 : LM RX1 31 kX3_get := Or.inl (tb_in 614 (by decide +kernel))
theorem lm_X2_48 : LM RX2 48 kX2_set := Or.inl (tb_in 422 (by decide +kernel))
theorem lm_X2_52 : LM RX2 52 kX2_nibble := Or.inl (tb_in 426 (by decide +kernel))
theorem lm_X2_56 : LM RX2 56 kX2_put := Or.inl (tb_in 429 (by decide +kernel))
theorem lm_X2_68 : LM RX2 68 kX2_with := Or.inl (tb_in 438 (by decide +kernel))
theorem lm_X2_75 : LM RX2 75 kJ6_bitCount_0f7a4 := Or.inl (tb_in 646 (by decide +kernel))
theorem lm_X2_80 : LM RX2 80 kX2_sign := Or.inl (tb_in 533 (by decide +kernel))
theorem lm_X2_83 : LM RX2 83 kX2_full := Or.inl (tb_in 534 (by decide +kernel))
theorem lm_X2_87 : LM RX2 87 kX0_aimed := Or.inl (tb_in 535 (by decide +kernel))
theorem lm_X2_93 : LM RX2 93 kX0_going := Or.inl (tb_in 536 (by decide +kernel))
theorem lm_X2_96 : LM RX2 96 kX2_men := Or.inl (tb_in 540 (by decide +kernel))
theorem lm_X2_106 : LM RX2 106 kX2_reach := Or.inl (tb_in 553 (by decide +kernel))
theorem lm_X2_110 : LM RX2 110 kX2_listFrom := Or.inl (tb_in 554 (by decide +kernel))
theorem lm_X2_114 : LM RX2 114 kX2_setPly := Or.inl (tb_in 558 (by decide +kernel))
theorem lm_X2_125 : LM RX2 125 kX2_copy := Or.inl (tb_in 656 (by decide +kernel))
theorem lm_X2_129 : LM RX2 129 kX2_make := Or.inl (tb_in 657 (by decide +kernel))
theorem lm_X2_132 : LM RX2 132 kX2_age := Or.inl (tb_in 588 (by decide +kernel))
theorem lm_X2_135 : LM RX2 135 kX2_fall := Or.inl (tb_in 593 (by decide +kernel))
theorem lm_X2_140 : LM RX2 140 kJ13_bitCount_95d88 := Or.inl (tb_in 747 (by decide +kernel))
theorem lm_X2_145 : LM RX2 145 kX2_lying := Or.inl (tb_in 592 (by decide +kernel))
theorem lm_X3_25 : LM RX3 25 kX3_isInside := Or.inl (tb_in 580 (by decide +kernel))
theorem lm_X3_43 : LM RX3 43 kX3_holds := Or.inl (tb_in 618 (by decide +kernel))
theorem lm_X3_46 : LM RX3 46 kX2_set := Or.inl (tb_in 622 (by decide +kernel))
theorem lm_X4_19 : LM RX4 19 kX4_fits := Or.inl (tb_in 293 (by decide +kernel))
theorem lm_X4_23 : LM RX4 23 kX4_end := Or.inl (tb_in 301 (by decide +kernel))
theorem lm_X4_27 : LM RX4 27 kX4_figure := Or.inl (tb_in 309 (by decide +kernel))
theorem lm_X4_31 : LM RX4 31 kX4_byteAt := Or.inl (tb_in 297 (by decide +kernel))
theorem lm_X4_36 : LM RX4 36 kJ0_indexOf_0f7a4 := Or.inl (tb_in 322 (by decide +kernel))
theorem lm_X4_41 : LM RX4 41 kX4_width := Or.inl (tb_in 305 (by decide +kernel))
theorem lm_X4_44 : LM RX4 44 kX4_height := Or.inl (tb_in 313 (by decide +kernel))
theorem lm_X4_47 : LM RX4 47 kX4_signOf := Or.inl (tb_in 317 (by decide +kernel))
theorem lm_X6_56 : LM RX6 56 kX6_in := Or.inl (tb_in 854 (by decide +kernel))
theorem lm_X6_65 : LM RX6 65 kX6_sideOf := Or.inl (tb_in 877 (by decide +kernel))
theorem lm_X6_77 : LM RX6 77 kX6_isCellSign := Or.inl (tb_in 874 (by decide +kernel))
theorem lm_X6_81 : LM RX6 81 kX6_fits := Or.inl (tb_in 866 (by decide +kernel))
theorem lm_X6_84 : LM RX6 84 kX6_fault := Or.inl (tb_in 884 (by decide +kernel))
theorem lm_X6_94 : LM RX6 94 kX6_isCell := Or.inl (tb_in 889 (by decide +kernel))
theorem lm_X6_97 : LM RX6 97 kX6_at := Or.inl (tb_in 912 (by decide +kernel))
theorem lm_X6_101 : LM RX6 101 kX6_isFree := Or.inl (tb_in 920 (by decide +kernel))
theorem lm_X6_105 : LM RX6 105 kX6_kindOf := Or.inl (tb_in 905 (by decide +kernel))
theorem lm_X6_108 : LM RX6 108 kX6_step := Or.inl (tb_in 908 (by decide +kernel))
theorem lm_X6_111 : LM RX6 111 kX6_line := Or.inl (tb_in 916 (by decide +kernel))
theorem lm_X6_115 : LM RX6 115 kX6_aimsOf := Or.inl (tb_in 901 (by decide +kernel))
theorem lm_X6_119 : LM RX6 119 kX6_going := Or.inl (tb_in 932 (by decide +kernel))
theorem lm_X6_122 : LM RX6 122 kX6_canOf := Or.inl (tb_in 928 (by decide +kernel))
theorem lm_X6_126 : LM RX6 126 kX6_hasKing := Or.inl (tb_in 960 (by decide +kernel))
theorem lm_X6_130 : LM RX6 130 kX6_list := Or.inl (tb_in 940 (by decide +kernel))
theorem lm_X6_136 : LM RX6 136 kX6_isPly := Or.inl (tb_in 948 (by decide +kernel))
theorem lm_X6_140 : LM RX6 140 kX6_keepPly := Or.inl (tb_in 952 (by decide +kernel))
theorem lm_X6_143 : LM RX6 143 kX6_make := Or.inl (tb_in 956 (by decide +kernel))
theorem lm_X6_148 : LM RX6 148 kX6_tenTo := Or.inl (tb_in 977 (by decide +kernel))
theorem lm_X6_151 : LM RX6 151 kX6_winsNow := Or.inl (tb_in 997 (by decide +kernel))
theorem lm_X6_154 : LM RX6 154 kX6_isDone := Or.inl (tb_in 993 (by decide +kernel))
theorem lm_X6_157 : LM RX6 157 kX6_isKey := Or.inl (tb_in 989 (by decide +kernel))
theorem lm_X6_162 : LM RX6 162 kX6_layKeys := Or.inl (tb_in 985 (by decide +kernel))
theorem lm_X6_165 : LM RX6 165 kX6_common := Or.inl (tb_in 1013 (by decide +kernel))
theorem lm_X6_168 : LM RX6 168 kX6_spread := Or.inl (tb_in 1024 (by decide +kernel))
theorem lm_X6_172 : LM RX6 172 kX6_layParts := Or.inl (tb_in 1020 (by decide +kernel))
theorem lm_X6_175 : LM RX6 175 kX6_comesTo := Or.inl (tb_in 1036 (by decide +kernel))
theorem lm_X6_178 : LM RX6 178 kX6_areFoes := Or.inl (tb_in 1044 (by decide +kernel))
theorem lm_X6_181 : LM RX6 181 kX6_canComeAt := Or.inl (tb_in 1048 (by decide +kernel))
theorem lm_X6_184 : LM RX6 184 kX6_isLike := Or.inl (tb_in 1065 (by decide +kernel))
theorem lm_X6_187 : LM RX6 187 kX6_oneWay := Or.inl (tb_in 1061 (by decide +kernel))
theorem lm_X6_192 : LM RX6 192 kX6_twoWays := Or.inl (tb_in 1069 (by decide +kernel))
theorem lm_X6_205 : LM RX6 205 kX6_men := Or.inl (tb_in 1084 (by decide +kernel))
theorem lm_X6_208 : LM RX6 208 kX6_setOf := Or.inl (tb_in 1100 (by decide +kernel))
theorem lm_J0_335 : LM RJ0 335 kJ0_coder_7d493 := Or.inl (tb_in 340 (by decide +kernel))
theorem lm_J0_492 : LM RJ0 492 kJ0_isLatin1_aae02 := Or.inl (tb_in 330 (by decide +kernel))
theorem lm_J0_495 : LM RJ0 495 kJ1_charAt_3b067 := Or.inl (tb_in 479 (by decide +kernel))
theorem lm_J0_505 : LM RJ0 505 kJ0_length_8abf5 := Or.inl (tb_in 336 (by decide +kernel))
theorem lm_J0_633 : LM RJ0 633 kJ0_indexOf_7cf53 := Or.inl (tb_in 326 (by decide +kernel))
theorem lm_J0_637 : LM RJ0 637 kJ1_indexOf_4cfef := Or.inl (tb_in 344 (by decide +kernel))
theorem lm_J0_1059 : LM RJ0 1059 kJ3_checkIndex_8e157 := Or.inl (tb_in 485 (by decide +kernel))
theorem lm_J1_9 : LM RJ1 9 kJ0_checkIndex_df160 := Or.inl (tb_in 482 (by decide +kernel))
theorem lm_J1_88 : LM RJ1 88 kJ1_canEncode_9a6ad := Or.inl (tb_in 347 (by decide +kernel))
theorem lm_J1_95 : LM RJ1 95 kJ1_indexOfChar_4cfef := Or.inl (tb_in 356 (by decide +kernel))
theorem lm_J2_414 : LM RJ2 414 kJ0_checkIndex_df160 := Or.inl (tb_in 494 (by decide +kernel))
theorem lm_X0_47 : LM RX0 47 kX5_kindOf := Or.inr (by decide +kernel)
theorem lm_X0_51 : LM RX0 51 kX5_at := Or.inr (by decide +kernel)
theorem lm_X0_59 : LM RX0 59 kX5_sideOf := Or.inr (by decide +kernel)
theorem lm_X0_62 : LM RX0 62 kX5_lowest := Or.inr (by decide +kernel)
theorem lm_X0_74 : LM RX0 74 kX5_has := Or.inr (by decide +kernel)
theorem lm_X0_88 : LM RX0 88 kX5_lay := Or.inr (by decide +kernel)
theorem lm_X2_60 : LM RX2 60 kX5_sideOf := Or.inr (by decide +kernel)
theorem lm_X2_72 : LM RX2 72 kX5_kindOf := Or.inr (by decide +kernel)
theorem lm_X2_102 : LM RX2 102 kX5_has := Or.inr (by decide +kernel)
theorem lm_X2_117 : LM RX2 117 kX5_at := Or.inr (by decide +kernel)
theorem lm_X2_121 : LM RX2 121 kX5_lay := Or.inr (by decide +kernel)
theorem kc_J11_76 : Cond.constant RJ11 76 (56320) ∈ TB := tb_in 407 (by decide +kernel)
theorem kc_J11_110 : Cond.constant RJ11 110 (55232) ∈ TB := tb_in 403 (by decide +kernel)
theorem kc_J6_265 : Cond.constant RJ6 265 (1431655765) ∈ TB := tb_in 649 (by decide +kernel)
theorem kc_J6_266 : Cond.constant RJ6 266 (858993459) ∈ TB := tb_in 650 (by decide +kernel)
theorem kc_J6_267 : Cond.constant RJ6 267 (252645135) ∈ TB := tb_in 651 (by decide +kernel)
theorem kc_J2_227 : Cond.constant RJ2 227 (65536) ∈ TB := tb_in 364 (by decide +kernel)
theorem kl_X5_215 : Cond.constantLong RX5 215 (6364136223846793005) ∈ TB := tb_in 765 (by decide +kernel)
theorem kl_X5_217 : Cond.constantLong RX5 217 (1442695040888963407) ∈ TB := tb_in 766 (by decide +kernel)
theorem kl_X2_64 : Cond.constantLong RX2 64 (15) ∈ TB := tb_in 436 (by decide +kernel)
theorem kl_X2_66 : Cond.constantLong RX2 66 (-1) ∈ TB := tb_in 437 (by decide +kernel)
theorem kl_X2_138 : Cond.constantLong RX2 138 (1229782938247303441) ∈ TB := tb_in 746 (by decide +kernel)
theorem kl_X6_54 : Cond.constantLong RX6 54 (8) ∈ TB := tb_in 853 (by decide +kernel)
theorem kl_X6_63 : Cond.constantLong RX6 63 (255) ∈ TB := tb_in 857 (by decide +kernel)
theorem kl_X6_69 : Cond.constantLong RX6 69 (49) ∈ TB := tb_in 870 (by decide +kernel)
theorem kl_X6_71 : Cond.constantLong RX6 71 (52) ∈ TB := tb_in 871 (by decide +kernel)
theorem kl_X6_73 : Cond.constantLong RX6 73 (48) ∈ TB := tb_in 872 (by decide +kernel)
theorem kl_X6_75 : Cond.constantLong RX6 75 (57) ∈ TB := tb_in 873 (by decide +kernel)
theorem kl_X6_146 : Cond.constantLong RX6 146 (2) ∈ TB := tb_in 976 (by decide +kernel)
theorem kl_X6_160 : Cond.constantLong RX6 160 (4) ∈ TB := tb_in 984 (by decide +kernel)
theorem kl_X6_190 : Cond.constantLong RX6 190 (3) ∈ TB := tb_in 1060 (by decide +kernel)
theorem kl_X6_199 : Cond.constantLong RX6 199 (40) ∈ TB := tb_in 1081 (by decide +kernel)
theorem kl_X6_201 : Cond.constantLong RX6 201 (6364136223846793005) ∈ TB := tb_in 1082 (by decide +kernel)
theorem kl_X6_203 : Cond.constantLong RX6 203 (1442695040888963407) ∈ TB := tb_in 1083 (by decide +kernel)
theorem kl_J13_314 : Cond.constantLong RJ13 314 (6148914691236517205) ∈ TB := tb_in 750 (by decide +kernel)
theorem kl_J13_316 : Cond.constantLong RJ13 316 (3689348814741910323) ∈ TB := tb_in 751 (by decide +kernel)
theorem kl_J13_318 : Cond.constantLong RJ13 318 (1085102592571150095) ∈ TB := tb_in 752 (by decide +kernel)
theorem sf_X0_78 : Cond.fieldLink RX0 78 RX0 "ACROSS" "[I" ∈ TB := tb_in 223 (by decide +kernel)
theorem sf_X0_81 : Cond.fieldLink RX0 81 RX0 "DOWN" "[I" ∈ TB := tb_in 228 (by decide +kernel)
theorem sf_X0_95 : Cond.fieldLink RX0 95 RX0 "LEAP_ACROSS" "[I" ∈ TB := tb_in 240 (by decide +kernel)
theorem sf_X0_98 : Cond.fieldLink RX0 98 RX0 "LEAP_DOWN" "[I" ∈ TB := tb_in 242 (by decide +kernel)
theorem sf_J0_9 : Cond.fieldLink RJ0 9 RJ0 "value" "[B" ∈ TB := tb_in 1106 (by decide +kernel)
theorem sf_J0_15 : Cond.fieldLink RJ0 15 RJ0 "coder" "B" ∈ TB := tb_in 1105 (by decide +kernel)
theorem sf_J0_38 : Cond.fieldLink RJ0 38 RJ0 "COMPACT_STRINGS" "Z" ∈ TB := tb_in 334 (by decide +kernel)
theorem sf_J0_1053 : Cond.fieldLink RJ0 1053 RJ3 "SIOOBE_FORMATTER" "Ljava/util/function/BiFunction;" ∈ TB := tb_in 377 (by decide +kernel)
theorem sf_J2_44 : Cond.fieldLink RJ2 44 RJ2 "$assertionsDisabled" "Z" ∈ TB := tb_in 388 (by decide +kernel)
theorem sf_J2_59 : Cond.fieldLink RJ2 59 RJ2 "HI_BYTE_SHIFT" "I" ∈ TB := tb_in 390 (by decide +kernel)
theorem sf_J2_63 : Cond.fieldLink RJ2 63 RJ2 "LO_BYTE_SHIFT" "I" ∈ TB := tb_in 392 (by decide +kernel)
end
section
/-! LEAVES -/
section MMX
variable {Ω : Shp} {d : Nat} {K : Mth} {pc : Nat} {L : Lcs} {S : List Value} {I : MemI} {J : MemJ} {Q : Pst}
theorem rm1 {d : Nat} {n : Nat} (h : n ≤ 8) : 1 ≤ (rmD (d + 1)).frames ∧ n + 13 ≤ (rmD (d + 1)).locals := ⟨Nat.le_add_left 1 d, by show n + 13 ≤ 50 * (d + 1); omega⟩
theorem tb_mmax : (Cond.static Lib.Math.max.name ∈ TB ∧ Cond.initialized "java/lang/Math" ∈ TB) ∧ Cond.code Lib.Math.max.name Lib.Math.max.code 2 (some .int) ∈ TB := ⟨⟨tb_in 351 (by decide +kernel), tb_in 56 (by decide +kernel)⟩, tb_in 352 (by decide +kernel)⟩
theorem wp_mmax {a b idx : Nat} (hd : decode K.2.1 pc = .ok (.invokestatic idx, 3)) (lk : Cond.methodLink K.1.cls idx Lib.Math.max.name ∈ TB) (ha : a < 2147483648) (hb : b < 2147483648) (hw : (S.map fun v => v.category).sum ≤ 8) (k : WP Ω (d + 1) K (pc + 3) L (.int (nI (max a b)) :: S) I J Q) : WP Ω (d + 1) K pc L (.int (nI b) :: .int (nI a) :: S) I J Q := by
  intro l G cA A fm p e s m args below meth c H locs ls X hP hS hl
  have hr := rm1 (d := d) (sum_cat (A := A) (act_fm X) hw)
  have hts := X.2.2.2.2.2.2.1
  have h2 := k l G cA A fm p e s m args below meth c H locs ls X hP hS hl
  refine va_mmax X.1 X.2.1 (X.2.2.2.2.1.trans hl.1.symm) X.2.2.2.2.2.1 (hts _ lk) (hts _ tb_mmax.1.1) (hts _ tb_mmax.1.2) (hts _ tb_mmax.2) hr.1 hr.2 (Nat.zero_le _) (Nat.zero_le _) hd ?_
  have e1 : (if nI a < nI b then nI b else nI a) = nI (max a b) := by
    split
    · rename_i h; rw [nI_ltI ha hb] at h; exact congrArg nI (by omega)
    · rename_i h; rw [nI_ltI ha hb] at h; exact congrArg nI (by omega)
  rw [e1]
  exact h2
theorem tb_mmin : (Cond.static Lib.Math.min.name ∈ TB ∧ Cond.initialized "java/lang/Math" ∈ TB) ∧ Cond.code Lib.Math.min.name Lib.Math.min.code 2 (some .int) ∈ TB := ⟨⟨tb_in 354 (by decide +kernel), tb_in 56 (by decide +kernel)⟩, tb_in 355 (by decide +kernel)⟩
theorem wp_mmin {a b idx : Nat} (hd : decode K.2.1 pc = .ok (.invokestatic idx, 3)) (lk : Cond.methodLink K.1.cls idx Lib.Math.min.name ∈ TB) (ha : a < 2147483648) (hb : b < 2147483648) (hw : (S.map fun v => v.category).sum ≤ 8) (k : WP Ω (d + 1) K (pc + 3) L (.int (nI (min a b)) :: S) I J Q) : WP Ω (d + 1) K pc L (.int (nI b) :: .int (nI a) :: S) I J Q := by
  intro l G cA A fm p e s m args below meth c H locs ls X hP hS hl
  have hr := rm1 (d := d) (sum_cat (A := A) (act_fm X) hw)
  have hts := X.2.2.2.2.2.2.1
  have h2 := k l G cA A fm p e s m args below meth c H locs ls X hP hS hl
  refine va_mmin X.1 X.2.1 (X.2.2.2.2.1.trans hl.1.symm) X.2.2.2.2.2.1 (hts _ lk) (hts _ tb_mmin.1.1) (hts _ tb_mmin.1.2) (hts _ tb_mmin.2) hr.1 hr.2 (Nat.zero_le _) (Nat.zero_le _) hd ?_
  have e1 : (if nI b < nI a then nI b else nI a) = nI (min a b) := by
    split
    · rename_i h; rw [nI_ltI hb ha] at h; exact congrArg nI (by omega)
    · rename_i h; rw [nI_ltI hb ha] at h; exact congrArg nI (by omega)
  rw [e1]
  exact h2
theorem lk_max : Cond.methodLink RJ1 92 Lib.Math.max.name ∈ TB := tb_in 350 (by decide +kernel)
theorem lk_min : Cond.methodLink RJ1 38 Lib.Math.min.name ∈ TB := tb_in 353 (by decide +kernel)
end MMX
theorem div_bit {m c : Nat} : m / 2 ^ c % 2 = (m.testBit c).toNat := by
  rw [Nat.testBit_eq_decide_div_mod_eq]
  rcases Nat.mod_two_eq_zero_or_one (m / 2 ^ c) with h | h <;> simp [h]
theorem and_one (a : Nat) : a &&& 1 = a % 2 := Nat.and_two_pow_sub_one_eq_mod a 1
theorem and_255 (a : Nat) : a &&& 255 = a % 256 := Nat.and_two_pow_sub_one_eq_mod a 8
theorem and_15 (a : Nat) : a &&& 15 = a % 16 := Nat.and_two_pow_sub_one_eq_mod a 4
theorem has_0 {m c : Nat} (h : m / 2 ^ c % 2 = 0) : nI 0 = bI (m.testBit c) := by
  rw [div_bit] at h
  rw [bI, h]
theorem has_1 {m c : Nat} (h : ¬ (m / 2 ^ c % 2 = 0)) : nI 1 = bI (m.testBit c) := by
  rw [div_bit] at h
  cases hb : m.testBit c with
  | true => rfl
  | false => rw [hb] at h; exact absurd rfl h
/-- the side of a sign -/
def sdI (s : Nat) : Int32 := if s < 2 then -9 else if s < 7 then nI 0 else nI 1
/-- the kind of a sign -/
def kdI (s : Nat) : Int32 := if s < 2 then -1 else if s < 7 then nI (s - 2) else nI (s - 7)
/-- 0 ≤ x < n -/
def inB (x : Int32) (n : Nat) : Bool := decide (¬ x < 0 ∧ x < nI n)
theorem inB_n {j n : Nat} (hj : j < 2147483648) (hn : n < 2147483648) : inB (nI j) n = decide (j < n) := by
  unfold inB
  congr 1
  exact propext ⟨fun h => (nI_ltI hj hn).mp h.2, fun h => ⟨nI_pos hj, (nI_ltI hj hn).mpr h⟩⟩
theorem inB_t {x : Int32} {n : Nat} (hn : n < 2147483648) (h : inB x n = true) : ∃ j, j < n ∧ x = nI j := by
  have h := of_decide_eq_true h
  rcases pk_ix x hn with h1 | h1 | ⟨j, h1, h2⟩
  · exact absurd h1 h.1
  · exact absurd h1 (Int32.not_le.mpr h.2)
  · exact ⟨j, h1, h2⟩
theorem inB_f0 {x : Int32} {n : Nat} (h : x < 0) : nI 0 = bI (inB x n) := by
  have : inB x n = false := decide_eq_false (fun z => z.1 h)
  rw [this]; rfl
theorem inB_f1 {x : Int32} {n : Nat} (h : nI n ≤ x) : nI 0 = bI (inB x n) := by
  have : inB x n = false := decide_eq_false (fun z => (Int32.not_le.mpr z.2) h)
  rw [this]; rfl
theorem inB_1 {x : Int32} {n : Nat} (h0 : ¬ x < 0) (h : ¬ nI n ≤ x) : nI 1 = bI (inB x n) := by
  have : inB x n = true := decide_eq_true ⟨h0, Int32.not_le.mp h⟩
  rw [this]; rfl
def asc (s : Nat) : Nat := match s with
  | 0 => 46 | 1 => 35 | 2 => 75 | 3 => 82 | 4 => 66 | 5 => 78 | 6 => 80 | 7 => 107 | 8 => 114 | 9 => 98 | 10 => 110 | _ => 112
section LF1
variable {Ω : Shp} {d : Nat} {I : MemI} {J : MemJ}
/-- has(m, c): the c-th bit -/
theorem sp_X5_has {m c : Nat} (hm : m < 2147483648) (hc : c < 31) : CALL Ω d kX5_has [.int (nI m), .int (nI c)] I J (PQ (.int (bI (m.testBit c))) I J) := by
  refine call_of_wp (by decide) (Nat.le_of_ble_eq_true rfl) ?_
  refine wp_iload_n (pc := 0) (i := 0) dX5_has_0 rfl rfl ?_
  refine wp_iload_n (pc := 1) (i := 1) dX5_has_1 rfl rfl ?_
  first | (refine wp_ishrN (pc := 2) dX5_has_2 (by first | assumption | omega) (by first | assumption | omega) ?_) | (refine wp_ishr (pc := 2) dX5_has_2 ?_)
  refine wp_iconst (pc := 3) (v := nI 1) dX5_has_3 (by decide +kernel) ?_
  first | (refine wp_iandN (pc := 4) dX5_has_4 ?_) | (refine wp_iand (pc := 4) dX5_has_4 ?_)
  rw [and_one]
  first | (refine wp_if_eqB (pc := 5) (tgt := 12) dX5_has_5 (by decide) (fun c_5 => ?_) (fun c_5 => ?_)) | (refine wp_if_eqN (pc := 5) (tgt := 12) dX5_has_5 (by decide) (by first | assumption | omega) (fun c_5 => ?_) (fun c_5 => ?_)) | (refine wp_if_eq (pc := 5) (tgt := 12) dX5_has_5 (by decide) (fun c_5 => ?_) (fun c_5 => ?_))
  · refine wp_iconst (pc := 12) (v := nI 0) dX5_has_12 (by decide +kernel) ?_
    refine wp_zreturn (pc := 13) dX5_has_13 rfl (by first | exact bI_narrow _ | exact nI_narrow01 (by omega) | decide +kernel | assumption) ?_
    first | exact pq_i (has_0 c_5) | exact pq_i (has_1 c_5)
  · refine wp_iconst (pc := 8) (v := nI 1) dX5_has_8 (by decide +kernel) ?_
    refine wp_goto (pc := 9) (tgt := 13) dX5_has_9 (by decide) ?_
    refine wp_zreturn (pc := 13) dX5_has_13 rfl (by first | exact bI_narrow _ | exact nI_narrow01 (by omega) | decide +kernel | assumption) ?_
    first | exact pq_i (has_0 c_5) | exact pq_i (has_1 c_5)
/-- at(row, j), in range -/
theorem sp_X5_at {a j n : Nat} (ha : Ω.1[a]? = some (1, 0, n)) (hb : Nat.beq a 1010 = false) (hj : j < n) (hn : n < 65536) : CALL Ω d kX5_at [.ref a, .int (nI j)] I J (PQ (.int (I a j)) I J) := by
  refine call_of_wp (by decide) (Nat.le_of_ble_eq_true rfl) ?_
  refine wp_iload_n (pc := 0) (i := 1) dX5_at_0 rfl rfl ?_
  refine wp_if_ltN (pc := 1) (tgt := 16) dX5_at_1 (by decide) (by first | assumption | omega) ?_
  refine wp_iload_n (pc := 4) (i := 1) dX5_at_4 rfl rfl ?_
  refine wp_aload_n (pc := 5) (i := 0) dX5_at_5 rfl rfl (by first | assumption | rfl) ?_
  refine wp_alen (pc := 6) dX5_at_6 (by first | assumption | rfl) (by first | assumption | rfl) (by decide) ?_
  first | (refine wp_icmp_geN (pc := 7) (tgt := 16) dX5_at_7 (by decide) (by first | assumption | omega) (by first | assumption | omega) (fun c_7 => ?_) (fun c_7 => ?_)) | (refine wp_icmp_ge (pc := 7) (tgt := 16) dX5_at_7 (by decide) (fun c_7 => ?_) (fun c_7 => ?_))
  · exact absurd hj (by omega)
  · refine wp_aload_n (pc := 10) (i := 0) dX5_at_10 rfl rfl (by first | assumption | rfl) ?_
    refine wp_iload_n (pc := 11) (i := 1) dX5_at_11 rfl rfl ?_
    refine wp_iald (pc := 12) dX5_at_12 ha hb hj hn ?_
    refine wp_goto (pc := 13) (tgt := 17) dX5_at_13 (by decide) ?_
    refine wp_ireturn (pc := 17) dX5_at_17 rfl ?_
    exact pq_i rfl
/-- lay(row, j, x), in range -/
theorem sp_X5_lay {a j n : Nat} {x : Int32} (ha : Ω.1[a]? = some (1, 0, n)) (hb : Nat.beq a 1010 = false) (hj : j < n) (hn : n < 65536) : CALL Ω d kX5_lay [.ref a, .int (nI j), .int x] I J (VQ (fun I' J' => I' = uI I a j x ∧ J' = J)) := by
  refine call_of_wp (by decide) (Nat.le_of_ble_eq_true rfl) ?_
  refine wp_iload_n (pc := 0) (i := 1) dX5_lay_0 rfl rfl ?_
  refine wp_if_ltN (pc := 1) (tgt := 14) dX5_lay_1 (by decide) (by first | assumption | omega) ?_
  refine wp_iload_n (pc := 4) (i := 1) dX5_lay_4 rfl rfl ?_
  refine wp_aload_n (pc := 5) (i := 0) dX5_lay_5 rfl rfl (by first | assumption | rfl) ?_
  refine wp_alen (pc := 6) dX5_lay_6 (by first | assumption | rfl) (by first | assumption | rfl) (by decide) ?_
  first | (refine wp_icmp_geN (pc := 7) (tgt := 14) dX5_lay_7 (by decide) (by first | assumption | omega) (by first | assumption | omega) (fun c_7 => ?_) (fun c_7 => ?_)) | (refine wp_icmp_ge (pc := 7) (tgt := 14) dX5_lay_7 (by decide) (fun c_7 => ?_) (fun c_7 => ?_))
  · exact absurd hj (by omega)
  · refine wp_aload_n (pc := 10) (i := 0) dX5_lay_10 rfl rfl (by first | assumption | rfl) ?_
    refine wp_iload_n (pc := 11) (i := 1) dX5_lay_11 rfl rfl ?_
    refine wp_iload_n (pc := 12) (i := 2) dX5_lay_12 rfl rfl ?_
    refine wp_iast (pc := 13) dX5_lay_13 ha hb hj hn ?_
    refine wp_return (pc := 14) dX5_lay_14 rfl ?_
    exact vq_i ⟨rfl, rfl⟩
theorem sp_X5_sideOf {s : Nat} (hs : s < 12) : CALL Ω d kX5_sideOf [.int (nI s)] I J (PQ (.int (sdI s)) I J) := by
  refine call_of_wp (by decide) (Nat.le_of_ble_eq_true rfl) ?_
  refine wp_iload_n (pc := 0) (i := 0) dX5_sideOf_0 rfl rfl ?_
  refine wp_iconst (pc := 1) (v := nI 2) dX5_sideOf_1 (by decide +kernel) ?_
  first | (refine wp_icmp_geN (pc := 2) (tgt := 8) dX5_sideOf_2 (by decide) (by first | assumption | omega) (by first | assumption | omega) (fun c_2 => ?_) (fun c_2 => ?_)) | (refine wp_icmp_ge (pc := 2) (tgt := 8) dX5_sideOf_2 (by decide) (fun c_2 => ?_) (fun c_2 => ?_))
  · refine wp_iload_n (pc := 8) (i := 0) dX5_sideOf_8 rfl rfl ?_
    refine wp_bipush (pc := 9) (v := nI 7) dX5_sideOf_9 (by decide +kernel) ?_
    first | (refine wp_icmp_geN (pc := 11) (tgt := 18) dX5_sideOf_11 (by decide) (by first | assumption | omega) (by first | assumption | omega) (fun c_11 => ?_) (fun c_11 => ?_)) | (refine wp_icmp_ge (pc := 11) (tgt := 18) dX5_sideOf_11 (by decide) (fun c_11 => ?_) (fun c_11 => ?_))
    · refine wp_iconst (pc := 18) (v := nI 1) dX5_sideOf_18 (by decide +kernel) ?_
      refine wp_ireturn (pc := 19) dX5_sideOf_19 rfl ?_
      exact pq_i (by unfold sdI; (repeat' split) <;> first | rfl | omega)
    · refine wp_iconst (pc := 14) (v := nI 0) dX5_sideOf_14 (by decide +kernel) ?_
      refine wp_goto (pc := 15) (tgt := 19) dX5_sideOf_15 (by decide) ?_
      refine wp_ireturn (pc := 19) dX5_sideOf_19 rfl ?_
      exact pq_i (by unfold sdI; (repeat' split) <;> first | rfl | omega)
  · refine wp_bipush (pc := 5) (v := (-9)) dX5_sideOf_5 (by decide +kernel) ?_
    refine wp_ireturn (pc := 7) dX5_sideOf_7 rfl ?_
    exact pq_i (by unfold sdI; (repeat' split) <;> first | rfl | omega)
theorem sp_X5_kindOf {s : Nat} (hs : s < 12) : CALL Ω d kX5_kindOf [.int (nI s)] I J (PQ (.int (kdI s)) I J) := by
  refine call_of_wp (by decide) (Nat.le_of_ble_eq_true rfl) ?_
  refine wp_iload_n (pc := 0) (i := 0) dX5_kindOf_0 rfl rfl ?_
  refine wp_iconst (pc := 1) (v := nI 2) dX5_kindOf_1 (by decide +kernel) ?_
  first | (refine wp_icmp_geN (pc := 2) (tgt := 7) dX5_kindOf_2 (by decide) (by first | assumption | omega) (by first | assumption | omega) (fun c_2 => ?_) (fun c_2 => ?_)) | (refine wp_icmp_ge (pc := 2) (tgt := 7) dX5_kindOf_2 (by decide) (fun c_2 => ?_) (fun c_2 => ?_))
  · refine wp_iload_n (pc := 7) (i := 0) dX5_kindOf_7 rfl rfl ?_
    refine wp_bipush (pc := 8) (v := nI 7) dX5_kindOf_8 (by decide +kernel) ?_
    first | (refine wp_icmp_geN (pc := 10) (tgt := 19) dX5_kindOf_10 (by decide) (by first | assumption | omega) (by first | assumption | omega) (fun c_10 => ?_) (fun c_10 => ?_)) | (refine wp_icmp_ge (pc := 10) (tgt := 19) dX5_kindOf_10 (by decide) (fun c_10 => ?_) (fun c_10 => ?_))
    · refine wp_iload_n (pc := 19) (i := 0) dX5_kindOf_19 rfl rfl ?_
      refine wp_bipush (pc := 20) (v := nI 7) dX5_kindOf_20 (by decide +kernel) ?_
      first | (refine wp_isubN (pc := 22) dX5_kindOf_22 (by first | assumption | omega) ?_) | (refine wp_isub (pc := 22) dX5_kindOf_22 ?_)
      refine wp_ireturn (pc := 23) dX5_kindOf_23 rfl ?_
      exact pq_i (by unfold kdI; (repeat' split) <;> first | rfl | omega)
    · refine wp_iload_n (pc := 13) (i := 0) dX5_kindOf_13 rfl rfl ?_
      refine wp_iconst (pc := 14) (v := nI 2) dX5_kindOf_14 (by decide +kernel) ?_
      first | (refine wp_isubN (pc := 15) dX5_kindOf_15 (by first | assumption | omega) ?_) | (refine wp_isub (pc := 15) dX5_kindOf_15 ?_)
      refine wp_goto (pc := 16) (tgt := 23) dX5_kindOf_16 (by decide) ?_
      refine wp_ireturn (pc := 23) dX5_kindOf_23 rfl ?_
      exact pq_i (by unfold kdI; (repeat' split) <;> first | rfl | omega)
  · refine wp_iconst (pc := 5) (v := (-1)) dX5_kindOf_5 (by decide +kernel) ?_
    refine wp_ireturn (pc := 6) dX5_kindOf_6 rfl ?_
    exact pq_i (by unfold kdI; (repeat' split) <;> first | rfl | omega)
theorem sp_X5_isSlot {x : Int32} : CALL Ω d kX5_isSlot [.int x] I J (PQ (.int (bI (inB x 2))) I J) := by
  refine call_of_wp (by decide) (Nat.le_of_ble_eq_true rfl) ?_
  refine wp_iload_n (pc := 0) (i := 0) dX5_isSlot_0 rfl rfl ?_
  refine wp_if_lt (pc := 1) (tgt := 13) dX5_isSlot_1 (by decide) (fun c_1 => ?_) (fun c_1 => ?_)
  · refine wp_iconst (pc := 13) (v := nI 0) dX5_isSlot_13 (by decide +kernel) ?_
    refine wp_zreturn (pc := 14) dX5_isSlot_14 rfl (by first | exact bI_narrow _ | exact nI_narrow01 (by omega) | decide +kernel | assumption) ?_
    first | exact pq_i (inB_f0 c_1) | exact pq_i (inB_f1 c_6) | exact pq_i (inB_1 c_1 c_6)
  · refine wp_iload_n (pc := 4) (i := 0) dX5_isSlot_4 rfl rfl ?_
    refine wp_iconst (pc := 5) (v := nI 2) dX5_isSlot_5 (by decide +kernel) ?_
    first | (refine wp_icmp_geN (pc := 6) (tgt := 13) dX5_isSlot_6 (by decide) (by first | assumption | omega) (by first | assumption | omega) (fun c_6 => ?_) (fun c_6 => ?_)) | (refine wp_icmp_ge (pc := 6) (tgt := 13) dX5_isSlot_6 (by decide) (fun c_6 => ?_) (fun c_6 => ?_))
    · refine wp_iconst (pc := 13) (v := nI 0) dX5_isSlot_13 (by decide +kernel) ?_
      refine wp_zreturn (pc := 14) dX5_isSlot_14 rfl (by first | exact bI_narrow _ | exact nI_narrow01 (by omega) | decide +kernel | assumption) ?_
      first | exact pq_i (inB_f0 c_1) | exact pq_i (inB_f1 c_6) | exact pq_i (inB_1 c_1 c_6)
    · refine wp_iconst (pc := 9) (v := nI 1) dX5_isSlot_9 (by decide +kernel) ?_
      refine wp_goto (pc := 10) (tgt := 14) dX5_isSlot_10 (by decide) ?_
      refine wp_zreturn (pc := 14) dX5_isSlot_14 rfl (by first | exact bI_narrow _ | exact nI_narrow01 (by omega) | decide +kernel | assumption) ?_
      first | exact pq_i (inB_f0 c_1) | exact pq_i (inB_f1 c_6) | exact pq_i (inB_1 c_1 c_6)
/-! the JDK's own -/
theorem sp_J0_isLatin1 {q : Nat} (h1 : 1004 ≤ q) (h2 : q < 1006) : CALL Ω d kJ0_isLatin1_aae02 [.ref q] I J (PQ (.int (nI 1)) I J) := by
  have hq : Nat.beq q 1010 = false := ro_beq (by omega)
  refine call_of_wp (by decide) (Nat.le_of_ble_eq_true rfl) ?_
  refine wp_getsZ (pc := 0) dJ0_isLatin1_aae02_0 sf_J0_38 ?_
  first | (refine wp_if_eqB (pc := 3) (tgt := 17) dJ0_isLatin1_aae02_3 (by decide) (fun c_3 => ?_) (fun c_3 => ?_)) | (refine wp_if_eqN (pc := 3) (tgt := 17) dJ0_isLatin1_aae02_3 (by decide) (by first | assumption | omega) (fun c_3 => ?_) (fun c_3 => ?_)) | (refine wp_if_eq (pc := 3) (tgt := 17) dJ0_isLatin1_aae02_3 (by decide) (fun c_3 => ?_) (fun c_3 => ?_))
  · exact absurd c_3 (by decide)
  · refine wp_aload_n (pc := 6) (i := 0) dJ0_isLatin1_aae02_6 rfl rfl (by first | assumption | rfl) ?_
    refine wp_getfC (pc := 7) dJ0_isLatin1_aae02_7 (by first | assumption | omega) (by first | assumption | omega) sf_J0_15 ?_
    first | (refine wp_if_neB (pc := 10) (tgt := 17) dJ0_isLatin1_aae02_10 (by decide) (fun c_10 => ?_) (fun c_10 => ?_)) | (refine wp_if_neN (pc := 10) (tgt := 17) dJ0_isLatin1_aae02_10 (by decide) (by first | assumption | omega) (fun c_10 => ?_) (fun c_10 => ?_)) | (refine wp_if_ne (pc := 10) (tgt := 17) dJ0_isLatin1_aae02_10 (by decide) (fun c_10 => ?_) (fun c_10 => ?_))
    · exact absurd rfl c_10
    · refine wp_iconst (pc := 13) (v := nI 1) dJ0_isLatin1_aae02_13 (by decide +kernel) ?_
      refine wp_goto (pc := 14) (tgt := 18) dJ0_isLatin1_aae02_14 (by decide) ?_
      refine wp_zreturn (pc := 18) dJ0_isLatin1_aae02_18 rfl (by first | exact bI_narrow _ | exact nI_narrow01 (by omega) | decide +kernel | assumption) ?_
      exact pq_i rfl
theorem sp_J0_coder {q : Nat} (h1 : 1004 ≤ q) (h2 : q < 1006) : CALL Ω d kJ0_coder_7d493 [.ref q] I J (PQ (.int (nI 0)) I J) := by
  have hq : Nat.beq q 1010 = false := ro_beq (by omega)
  refine call_of_wp (by decide) (Nat.le_of_ble_eq_true rfl) ?_
  refine wp_getsZ (pc := 0) dJ0_coder_7d493_0 sf_J0_38 ?_
  first | (refine wp_if_eqB (pc := 3) (tgt := 13) dJ0_coder_7d493_3 (by decide) (fun c_3 => ?_) (fun c_3 => ?_)) | (refine wp_if_eqN (pc := 3) (tgt := 13) dJ0_coder_7d493_3 (by decide) (by first | assumption | omega) (fun c_3 => ?_) (fun c_3 => ?_)) | (refine wp_if_eq (pc := 3) (tgt := 13) dJ0_coder_7d493_3 (by decide) (fun c_3 => ?_) (fun c_3 => ?_))
  · exact absurd c_3 (by decide)
  · refine wp_aload_n (pc := 6) (i := 0) dJ0_coder_7d493_6 rfl rfl (by first | assumption | rfl) ?_
    refine wp_getfC (pc := 7) dJ0_coder_7d493_7 (by first | assumption | omega) (by first | assumption | omega) sf_J0_15 ?_
    refine wp_goto (pc := 10) (tgt := 14) dJ0_coder_7d493_10 (by decide) ?_
    refine wp_zreturn (pc := 14) dJ0_coder_7d493_14 rfl (by first | exact bI_narrow _ | exact nI_narrow01 (by omega) | decide +kernel | assumption) ?_
    exact pq_i rfl
theorem sp_J0_length {q : Nat} (h1 : 1004 ≤ q) (h2 : q < 1006) : CALL Ω (d + 1) kJ0_length_8abf5 [.ref q] I J (PQ (.int (nI 12)) I J) := by
  have hq : Nat.beq q 1010 = false := ro_beq (by omega)
  refine call_of_wp (by decide) (Nat.le_of_ble_eq_true rfl) ?_
  refine wp_aload_n (pc := 0) (i := 0) dJ0_length_8abf5_0 rfl rfl (by first | assumption | rfl) ?_
  refine wp_getfV (pc := 1) dJ0_length_8abf5_1 (by first | assumption | omega) (by first | assumption | omega) sf_J0_9 ?_
  refine wp_alenT (pc := 4) dJ0_length_8abf5_4 (by omega) (by omega) ?_
  refine wp_aload_n (pc := 5) (i := 0) dJ0_length_8abf5_5 rfl rfl (by first | assumption | rfl) ?_
  refine wp_cTP0 (pc := 6) dJ0_length_8abf5_6 lm_J0_335 (by decide) m_J0_coder_7d493 (by first | assumption | omega) (by first | assumption | omega) rfl (Nat.le_of_ble_eq_true rfl) (sp_J0_coder (by first | assumption | omega) (by first | assumption | omega)) ?_
  first | (refine wp_ishrN (pc := 9) dJ0_length_8abf5_9 (by first | assumption | omega) (by first | assumption | omega) ?_) | (refine wp_ishr (pc := 9) dJ0_length_8abf5_9 ?_)
  refine wp_ireturn (pc := 10) dJ0_length_8abf5_10 rfl ?_
  exact pq_i rfl
theorem sp_J3_checkIndex {i n q : Nat} (h : i < n) (hn : n < 65536) : CALL Ω d kJ3_checkIndex_8e157 [.int (nI i), .int (nI n), .ref q] I J (PQ (.int (nI i)) I J) := by
  refine call_of_wp (by decide) (Nat.le_of_ble_eq_true rfl) ?_
  refine wp_iload_n (pc := 0) (i := 0) dJ3_checkIndex_8e157_0 rfl rfl ?_
  refine wp_if_ltN (pc := 1) (tgt := 9) dJ3_checkIndex_8e157_1 (by decide) (by first | assumption | omega) ?_
  refine wp_iload_n (pc := 4) (i := 0) dJ3_checkIndex_8e157_4 rfl rfl ?_
  refine wp_iload_n (pc := 5) (i := 1) dJ3_checkIndex_8e157_5 rfl rfl ?_
  first | (refine wp_icmp_ltN (pc := 6) (tgt := 16) dJ3_checkIndex_8e157_6 (by decide) (by first | assumption | omega) (by first | assumption | omega) (fun c_6 => ?_) (fun c_6 => ?_)) | (refine wp_icmp_lt (pc := 6) (tgt := 16) dJ3_checkIndex_8e157_6 (by decide) (fun c_6 => ?_) (fun c_6 => ?_))
  · refine wp_iload_n (pc := 16) (i := 0) dJ3_checkIndex_8e157_16 rfl rfl ?_
    refine wp_ireturn (pc := 17) dJ3_checkIndex_8e157_17 rfl ?_
    exact pq_i rfl
  · exact absurd h c_6
theorem sp_J0_checkIndex {i n : Nat} (h : i < n) (hn : n < 65536) : CALL Ω (d + 1) kJ0_checkIndex_df160 [.int (nI i), .int (nI n)] I J (VQ (fun I' J' => I' = I ∧ J' = J)) := by
  refine call_of_wp (by decide) (Nat.le_of_ble_eq_true rfl) ?_
  refine wp_iload_n (pc := 0) (i := 0) dJ0_checkIndex_df160_0 rfl rfl ?_
  refine wp_iload_n (pc := 1) (i := 1) dJ0_checkIndex_df160_1 rfl rfl ?_
  refine wp_getsF (pc := 2) dJ0_checkIndex_df160_2 sf_J0_1053 ?_
  refine wp_cSP3 (pc := 5) dJ0_checkIndex_df160_5 lm_J0_1059 m_J3_checkIndex_8e157 (Nat.le_of_ble_eq_true rfl) (sp_J3_checkIndex (by first | assumption | omega) (by first | assumption | omega)) ?_
  refine wp_pop (pc := 8) dJ0_checkIndex_df160_8 rfl ?_
  refine wp_return (pc := 9) dJ0_checkIndex_df160_9 rfl ?_
  exact vq_i ⟨rfl, rfl⟩
/-- the bytes of the signs -/
theorem ro_asc : ∀ q, 1006 ≤ q → q < 1008 → ∀ j, j < 12 → (roT q).getD j 0 = nI (asc j) := by
  intro q h1 h2
  rcases (show q = 1006 ∨ q = 1007 by omega) with rfl | rfl <;> decide +kernel
theorem asc_lt (s : Nat) : asc s < 128 := by unfold asc; split <;> omega
theorem sp_J1_charAt {q i : Nat} (h1 : 1006 ≤ q) (h2 : q < 1008) (h : i < 12) : CALL Ω (d + 2) kJ1_charAt_3b067 [.ref q, .int (nI i)] I J (PQ (.int (nI (asc i))) I J) := by
  have hq : Nat.beq q 1010 = false := ro_beq (by omega)
  have ha := asc_lt i
  refine call_of_wp (by decide) (Nat.le_of_ble_eq_true rfl) ?_
  refine wp_iload_n (pc := 0) (i := 1) dJ1_charAt_3b067_0 rfl rfl ?_
  refine wp_aload_n (pc := 1) (i := 0) dJ1_charAt_3b067_1 rfl rfl (by first | assumption | rfl) ?_
  refine wp_alenT (pc := 2) dJ1_charAt_3b067_2 (by omega) (by omega) ?_
  refine wp_cSV2 (pc := 3) dJ1_charAt_3b067_3 lm_J1_9 m_J0_checkIndex_df160 (Nat.le_of_ble_eq_true rfl) (sp_J0_checkIndex (by first | assumption | omega) (by first | assumption | omega)) (fun I_3 J_3 h_3 => ?_)
  obtain ⟨rfl, rfl⟩ := h_3
  refine wp_aload_n (pc := 6) (i := 0) dJ1_charAt_3b067_6 rfl rfl (by first | assumption | rfl) ?_
  refine wp_iload_n (pc := 7) (i := 1) dJ1_charAt_3b067_7 rfl rfl ?_
  refine wp_baldT (pc := 8) dJ1_charAt_3b067_8 (by omega) (by omega) h ?_
  rw [ro_asc q h1 h2 i h]
  refine wp_sipush (pc := 9) (v := nI 255) dJ1_charAt_3b067_9 (by decide +kernel) ?_
  first | (refine wp_iandN (pc := 12) dJ1_charAt_3b067_12 ?_) | (refine wp_iand (pc := 12) dJ1_charAt_3b067_12 ?_)
  refine wp_i2c (pc := 13) dJ1_charAt_3b067_13 ?_
  rw [and_255, Nat.mod_eq_of_lt (by omega), show ((nI (asc i)).toUInt32 % 65536).toInt32 = nI (asc i) by rw [pk_char, pk_tn (by omega), Nat.mod_eq_of_lt (by omega)]]
  refine wp_zreturn (pc := 14) dJ1_charAt_3b067_14 rfl (pk_charN (by omega)).1 ?_
  exact pq_i rfl
theorem sp_J0_charAt {q i : Nat} (h1 : 1004 ≤ q) (h2 : q < 1006) (h : i < 12) : CALL Ω (d + 3) kJ0_charAt_5068e [.ref q, .int (nI i)] I J (PQ (.int (nI (asc i))) I J) := by
  have hq : Nat.beq q 1010 = false := ro_beq (by omega)
  have ha := asc_lt i
  refine call_of_wp (by decide) (Nat.le_of_ble_eq_true rfl) ?_
  refine wp_aload_n (pc := 0) (i := 0) dJ0_charAt_5068e_0 rfl rfl (by first | assumption | rfl) ?_
  refine wp_cTP0 (pc := 1) dJ0_charAt_5068e_1 lm_J0_492 (by decide) m_J0_isLatin1_aae02 (by first | assumption | omega) (by first | assumption | omega) rfl (Nat.le_of_ble_eq_true rfl) (sp_J0_isLatin1 (by first | assumption | omega) (by first | assumption | omega)) ?_
  first | (refine wp_if_eqB (pc := 4) (tgt := 16) dJ0_charAt_5068e_4 (by decide) (fun c_4 => ?_) (fun c_4 => ?_)) | (refine wp_if_eqN (pc := 4) (tgt := 16) dJ0_charAt_5068e_4 (by decide) (by first | assumption | omega) (fun c_4 => ?_) (fun c_4 => ?_)) | (refine wp_if_eq (pc := 4) (tgt := 16) dJ0_charAt_5068e_4 (by decide) (fun c_4 => ?_) (fun c_4 => ?_))
  · exact absurd c_4 (by decide)
  · refine wp_aload_n (pc := 7) (i := 0) dJ0_charAt_5068e_7 rfl rfl (by first | assumption | rfl) ?_
    refine wp_getfV (pc := 8) dJ0_charAt_5068e_8 (by first | assumption | omega) (by first | assumption | omega) sf_J0_9 ?_
    refine wp_iload_n (pc := 11) (i := 1) dJ0_charAt_5068e_11 rfl rfl ?_
    refine wp_cSP2 (pc := 12) dJ0_charAt_5068e_12 lm_J0_495 m_J1_charAt_3b067 (Nat.le_of_ble_eq_true rfl) (sp_J1_charAt (by first | assumption | omega) (by first | assumption | omega) (by first | assumption | omega)) ?_
    refine wp_zreturn (pc := 15) dJ0_charAt_5068e_15 rfl (pk_charN (by omega)).1 ?_
    exact pq_i rfl
theorem sp_X5_letter {s : Nat} (hs : s < 12) : CALL Ω (d + 4) kX5_letter [.int (nI s)] I J (PQ (.int (nI (asc s))) I J) := by
  refine call_of_wp (by decide) (Nat.le_of_ble_eq_true rfl) ?_
  refine wp_iload_n (pc := 0) (i := 0) dX5_letter_0 rfl rfl ?_
  refine wp_if_ltN (pc := 1) (tgt := 24) dX5_letter_1 (by decide) (by first | assumption | omega) ?_
  refine wp_iload_n (pc := 4) (i := 0) dX5_letter_4 rfl rfl ?_
  refine wp_ldcS5 (pc := 5) dX5_letter_5 rfl ?_
  refine wp_cTP0 (pc := 8) dX5_letter_8 lm_X5_270 (by decide) m_J0_length_8abf5 (by first | assumption | omega) (by first | assumption | omega) rfl (Nat.le_of_ble_eq_true rfl) (sp_J0_length (by first | assumption | omega) (by first | assumption | omega)) ?_
  first | (refine wp_icmp_geN (pc := 11) (tgt := 24) dX5_letter_11 (by decide) (by first | assumption | omega) (by first | assumption | omega) (fun c_11 => ?_) (fun c_11 => ?_)) | (refine wp_icmp_ge (pc := 11) (tgt := 24) dX5_letter_11 (by decide) (fun c_11 => ?_) (fun c_11 => ?_))
  · exact absurd hs (by omega)
  · refine wp_ldcS5 (pc := 14) dX5_letter_14 rfl ?_
    refine wp_iload_n (pc := 17) (i := 0) dX5_letter_17 rfl rfl ?_
    refine wp_cTP1 (pc := 18) dX5_letter_18 lm_X5_274 (by decide) m_J0_charAt_5068e (by first | assumption | omega) (by first | assumption | omega) rfl (Nat.le_of_ble_eq_true rfl) (sp_J0_charAt (by first | assumption | omega) (by first | assumption | omega) (by first | assumption | omega)) ?_
    refine wp_goto (pc := 21) (tgt := 25) dX5_letter_21 (by decide) ?_
    refine wp_ireturn (pc := 25) dX5_letter_25 rfl ?_
    exact pq_i rfl
end LF1
end
section
/-! SETS OF CELLS AS BITS; PACKS OF SIXTEEN NIBBLES; COUNTS OF BITS -/
/-- the set of those i < n with P -/
def msN (P : Nat → Bool) : Nat → Nat
  | 0 => 0
  | n + 1 => 2 ^ n * (P n).toNat + msN P n
def mset (P : Nat → Bool) : Nat := msN P 16
theorem lt_bit {m n i : Nat} (h : m < 2 ^ n) (hi : n ≤ i) : m.testBit i = false :=
  Nat.testBit_lt_two_pow (Nat.lt_of_lt_of_le h (Nat.pow_le_pow_right (by decide) hi))
theorem msN_lt (P : Nat → Bool) : ∀ n, msN P n < 2 ^ n
  | 0 => by simp [msN]
  | n + 1 => by
    have h := msN_lt P n
    unfold msN
    rw [Nat.pow_succ]
    cases P n <;> simp <;> omega
theorem msN_bit (P : Nat → Bool) : ∀ n i, (msN P n).testBit i = (decide (i < n) && P i)
  | 0, i => by simp [msN]
  | n + 1, i => by
    unfold msN
    rw [Nat.testBit_two_pow_mul_add _ (msN_lt P n)]
    rw [msN_bit P n i]
    by_cases h : i < n
    · rw [if_pos h]
      simp [h, Nat.lt_succ_of_lt h]
    · rw [if_neg h]
      by_cases he : i = n
      · subst he
        rw [Nat.sub_self]
        cases P i <;> simp
      · have h2 : ¬ i < n + 1 := by omega
        have h3 : i - n ≠ 0 := by omega
        cases P n
        · simp [h2]
        · rw [Bool.toNat_true, lt_bit (m := 1) (n := 1) (by decide) (by omega)]; simp [h2]
theorem mset_lt (P : Nat → Bool) : mset P < 65536 := msN_lt P 16
theorem mset_bit (P : Nat → Bool) (i : Nat) : (mset P).testBit i = (decide (i < 16) && P i) := msN_bit P 16 i
theorem mset_bit' (P : Nat → Bool) {i : Nat} (h : i < 16) : (mset P).testBit i = P i := by rw [mset_bit]; simp [h]
theorem mset_eq {P R : Nat → Bool} (h : ∀ i, i < 16 → P i = R i) : mset P = mset R := by
  apply Nat.eq_of_testBit_eq
  intro i
  rw [mset_bit, mset_bit]
  by_cases hi : i < 16
  · rw [h i hi]
  · simp [hi]
/-- any number of sixteen bits is a set -/
theorem of_bits {m : Nat} {P : Nat → Bool} (hm : m < 65536) (h : ∀ i, i < 16 → m.testBit i = P i) : m = mset P := by
  apply Nat.eq_of_testBit_eq
  intro i
  rw [mset_bit]
  by_cases hi : i < 16
  · rw [h i hi]; simp [hi]
  · rw [lt_bit (n := 16) hm (by omega)]; simp [hi]
theorem mset_or (P R : Nat → Bool) : mset P ||| mset R = mset (fun i => P i || R i) := by
  apply Nat.eq_of_testBit_eq; intro i
  rw [Nat.testBit_or, mset_bit, mset_bit, mset_bit]
  cases decide (i < 16) <;> simp
theorem mset_and (P R : Nat → Bool) : mset P &&& mset R = mset (fun i => P i && R i) := by
  apply Nat.eq_of_testBit_eq; intro i
  rw [Nat.testBit_and, mset_bit, mset_bit, mset_bit]
  cases decide (i < 16) <;> simp
theorem mset_one {c : Nat} (h : c < 16) : 2 ^ c = mset (fun i => decide (i = c)) := by
  refine of_bits (Nat.pow_lt_pow_right (by decide) h) (fun i hi => ?_)
  rw [Nat.testBit_two_pow]
  exact decide_eq_decide.mpr eq_comm
theorem mset_none : mset (fun _ => false) = 0 := by
  apply Nat.eq_of_testBit_eq; intro i
  rw [mset_bit]; simp
theorem mset_zero {P : Nat → Bool} : mset P = 0 ↔ ∀ i, i < 16 → P i = false := by
  constructor
  · intro h i hi
    have := mset_bit' P hi
    rw [h] at this
    simpa using this.symm
  · intro h
    rw [← mset_none]
    exact mset_eq h
/-- the complement, as the code takes it: n ^ -1 under an and -/
theorem ni_m1 : (-1 : Int32) = nI 4294967295 := by decide +kernel
theorem bit_m1 {i : Nat} (h : i < 32) : (4294967295 : Nat).testBit i = true := by
  have : ∀ i, i < 32 → (4294967295 : Nat).testBit i = true := by decide +kernel
  exact this i h
theorem mset_minus (P R : Nat → Bool) : nI (mset P) &&& (nI (mset R) ^^^ (-1)) = nI (mset (fun i => P i && !R i)) := by
  rw [ni_m1, nx_xor, fa_and]
  congr 1
  apply Nat.eq_of_testBit_eq; intro i
  rw [Nat.testBit_and, Nat.testBit_xor, mset_bit, mset_bit, mset_bit]
  by_cases hi : i < 16
  · rw [bit_m1 (by omega)]; simp [hi]
  · simp [hi]
/-! packs -/
def pkN (f : Nat → Nat) : Nat → Nat
  | 0 => 0
  | n + 1 => 2 ^ (4 * n) * f n + pkN f n
def pk (f : Nat → Nat) : Nat := pkN f 16
theorem pkN_lt {f : Nat → Nat} (hf : ∀ c, c < 16 → f c < 16) : ∀ n, n ≤ 16 → pkN f n < 2 ^ (4 * n)
  | 0, _ => by simp [pkN]
  | n + 1, h => by
    have h1 := pkN_lt hf n (by omega)
    have h2 := hf n (by omega)
    unfold pkN
    have e : 2 ^ (4 * (n + 1)) = 2 ^ (4 * n) * 16 := by rw [Nat.mul_add, Nat.pow_add]
    rw [e]
    have h3 : 2 ^ (4 * n) * f n ≤ 2 ^ (4 * n) * 15 := Nat.mul_le_mul_left _ (by omega)
    omega
theorem pkN_bit {f : Nat → Nat} (hf : ∀ c, c < 16 → f c < 16) : ∀ n, n ≤ 16 → ∀ i, (pkN f n).testBit i = (decide (i < 4 * n) && (f (i / 4)).testBit (i % 4))
  | 0, _, i => by simp [pkN]
  | n + 1, h, i => by
    have h1 := pkN_lt hf n (by omega)
    have h2 := hf n (by omega)
    unfold pkN
    rw [Nat.testBit_two_pow_mul_add _ h1, pkN_bit hf n (by omega) i]
    by_cases hi : i < 4 * n
    · rw [if_pos hi]
      simp [hi, show i < 4 * (n + 1) by omega]
    · rw [if_neg hi]
      by_cases hj : i < 4 * (n + 1)
      · have e1 : i / 4 = n := by omega
        have e2 : i % 4 = i - 4 * n := by omega
        rw [e1, e2]; simp [hj]
      · rw [lt_bit (n := 4) h2 (by omega)]
        simp [hj]
theorem pn_lt {f : Nat → Nat} (hf : ∀ c, c < 16 → f c < 16) : pk f < 18446744073709551616 := pkN_lt hf 16 (Nat.le_refl _)
theorem pn_bit {f : Nat → Nat} (hf : ∀ c, c < 16 → f c < 16) (i : Nat) : (pk f).testBit i = (decide (i < 64) && (f (i / 4)).testBit (i % 4)) := pkN_bit hf 16 (Nat.le_refl _) i
theorem pkN_cong {f g : Nat → Nat} : ∀ n, (∀ c, c < n → f c = g c) → pkN f n = pkN g n
  | 0, _ => rfl
  | n + 1, h => by
    unfold pkN
    rw [h n (by omega), pkN_cong n (fun c hc => h c (by omega))]
theorem pn_cong {f g : Nat → Nat} (h : ∀ c, c < 16 → f c = g c) : pk f = pk g := pkN_cong 16 h
/-- the c-th nibble -/
theorem pn_dig {f : Nat → Nat} (hf : ∀ c, c < 16 → f c < 16) {c : Nat} (hc : c < 16) : pk f / 2 ^ (4 * c) % 16 = f c := by
  apply Nat.eq_of_testBit_eq; intro i
  rw [show (16 : Nat) = 2 ^ 4 from rfl, Nat.testBit_mod_two_pow, Nat.testBit_div_two_pow, pn_bit hf]
  by_cases hi : i < 4
  · have e1 : (i + 4 * c) / 4 = c := by omega
    have e2 : (i + 4 * c) % 4 = i := by omega
    rw [e1, e2]
    simp [hi, show i + 4 * c < 64 by omega]
  · rw [lt_bit (n := 4) (hf c hc) (by omega)]
    simp [hi]
theorem pn_inj {f g : Nat → Nat} (hf : ∀ c, c < 16 → f c < 16) (hg : ∀ c, c < 16 → g c < 16) (h : pk f = pk g) : ∀ c, c < 16 → f c = g c := by
  intro c hc
  rw [← pn_dig hf hc, ← pn_dig hg hc, h]
/-- one nibble changed -/
def up (f : Nat → Nat) (c v : Nat) : Nat → Nat := fun k => if k = c then v else f k
theorem up_s {f : Nat → Nat} {c v : Nat} : up f c v c = v := by simp [up]
theorem up_n {f : Nat → Nat} {c v k : Nat} (h : k ≠ c) : up f c v k = f k := by simp [up, h]
theorem up_lt {f : Nat → Nat} (hf : ∀ c, c < 16 → f c < 16) {c v : Nat} (hv : v < 16) : ∀ k, k < 16 → up f c v k < 16 := by
  intro k hk
  unfold up
  split
  · exact hv
  · exact hf k hk
theorem shl_bit (a c i : Nat) : (a * 2 ^ (4 * c)).testBit i = (decide (4 * c ≤ i) && a.testBit (i - 4 * c)) := by
  rw [Nat.mul_comm, Nat.testBit_two_pow_mul]
theorem m64_bit {i : Nat} (h : i < 64) : (18446744073709551615 : Nat).testBit i = true := by
  have : ∀ i, i < 64 → (18446744073709551615 : Nat).testBit i = true := by decide +kernel
  exact this i h
theorem fif_bit (i : Nat) : (15 : Nat).testBit i = decide (i < 4) := by
  by_cases h : i < 4
  · have : ∀ i, i < 4 → (15 : Nat).testBit i = true := by decide +kernel
    rw [this i h]; simp [h]
  · rw [lt_bit (n := 4) (by decide) (by omega)]; simp [h]
theorem pn_put {f : Nat → Nat} (hf : ∀ c, c < 16 → f c < 16) {c s : Nat} (hc : c < 16) (hs : s < 16) : (pk f &&& (15 * 2 ^ (4 * c) ^^^ 18446744073709551615)) ||| s * 2 ^ (4 * c) = pk (up f c s) := by
  apply Nat.eq_of_testBit_eq; intro i
  rw [Nat.testBit_or, Nat.testBit_and, Nat.testBit_xor, pn_bit hf, pn_bit (up_lt hf hs), shl_bit, shl_bit, fif_bit]
  by_cases hi : i < 64
  · rw [m64_bit hi]
    by_cases he : i / 4 = c
    · have e1 : i - 4 * c = i % 4 := by omega
      have e2 : 4 * c ≤ i := by omega
      have e3 : i % 4 < 4 := by omega
      rw [he, up_s, e1]
      simp [hi, e2, e3]
    · rw [up_n he]
      by_cases h1 : 4 * c ≤ i
      · have h2 : ¬ i - 4 * c < 4 := by omega
        rw [lt_bit (n := 4) (m := s) hs (by omega)]
        simp [hi, h1, h2]
      · simp [hi, h1]
  · have h1 : 4 ≤ i - 4 * c := by omega
    rw [lt_bit (n := 4) (m := s) hs h1]
    simp [hi]
theorem pn_or0 {f : Nat → Nat} (hf : ∀ c, c < 16 → f c < 16) {c s : Nat} (hc : c < 16) (hs : s < 16) (h0 : f c = 0) : pk f ||| s * 2 ^ (4 * c) = pk (up f c s) := by
  apply Nat.eq_of_testBit_eq; intro i
  rw [Nat.testBit_or, pn_bit hf, pn_bit (up_lt hf hs), shl_bit]
  by_cases he : i / 4 = c
  · have e1 : i - 4 * c = i % 4 := by omega
    have e2 : 4 * c ≤ i := by omega
    rw [he, up_s, e1, h0]
    simp [e2, show i < 64 by omega]
  · rw [up_n he]
    by_cases h1 : 4 * c ≤ i
    · rw [lt_bit (n := 4) (m := s) hs (by omega)]
      simp
    · simp [h1]
theorem pkN_up {f : Nat → Nat} {c v : Nat} : ∀ n, c < n → pkN (up f c v) n + 2 ^ (4 * c) * f c = pkN f n + 2 ^ (4 * c) * v
  | 0, h => by omega
  | n + 1, h => by
    unfold pkN
    by_cases he : c = n
    · subst he
      rw [up_s, pkN_cong (f := up f c v) (g := f) c (fun k hk => up_n (by omega))]
      omega
    · have h1 := pkN_up (f := f) (c := c) (v := v) n (by omega)
      rw [up_n (Ne.symm he)]
      omega
theorem pn_dec {f : Nat → Nat} {c : Nat} (hc : c < 16) (h0 : 0 < f c) : 1 * 2 ^ (4 * c) ≤ pk f ∧ pk f - 1 * 2 ^ (4 * c) = pk (up f c (f c - 1)) := by
  have h := pkN_up (f := f) (c := c) (v := f c - 1) 16 hc
  have e : 2 ^ (4 * c) * f c = 2 ^ (4 * c) * (f c - 1) + 2 ^ (4 * c) := by
    have : f c = (f c - 1) + 1 := by omega
    calc 2 ^ (4 * c) * f c = 2 ^ (4 * c) * ((f c - 1) + 1) := by rw [← this]
      _ = _ := by rw [Nat.mul_add, Nat.mul_one]
  have h2 : pkN (up f c (f c - 1)) 16 + 2 ^ (4 * c) = pkN f 16 := by omega
  unfold pk
  omega
theorem pn_zero {f : Nat → Nat} (hf : ∀ c, c < 16 → f c < 16) : pk f = 0 ↔ ∀ c, c < 16 → f c = 0 := by
  constructor
  · intro h c hc
    rw [← pn_dig hf hc, h]
    simp
  · intro h
    rw [pn_cong (g := fun _ => 0) h]
    rfl
end
section
/-! COUNTS OF BITS -/
/-- how many bits -/
def cnt (P : Nat → Bool) : Nat := fb_ct P 16
def swN (m : Nat) : Nat :=
  let a := m - (m / 2 ^ 1 &&& 1431655765)
  let b := (a &&& 858993459) + (a / 2 ^ 2 &&& 858993459)
  let c := (b + b / 2 ^ 4) &&& 252645135
  let e := c + c / 2 ^ 8
  let g := e + e / 2 ^ 16
  g &&& 63
theorem sw_a0 : ∀ a, a < 8 → ∀ b, b < 256 → swN (256 * (0 + a) + b) = fb_ct (fun i => (256 * (0 + a) + b).testBit i) 16 := by decide +kernel
theorem sw_a1 : ∀ a, a < 8 → ∀ b, b < 256 → swN (256 * (8 + a) + b) = fb_ct (fun i => (256 * (8 + a) + b).testBit i) 16 := by decide +kernel
theorem sw_a2 : ∀ a, a < 8 → ∀ b, b < 256 → swN (256 * (16 + a) + b) = fb_ct (fun i => (256 * (16 + a) + b).testBit i) 16 := by decide +kernel
theorem sw_a3 : ∀ a, a < 8 → ∀ b, b < 256 → swN (256 * (24 + a) + b) = fb_ct (fun i => (256 * (24 + a) + b).testBit i) 16 := by decide +kernel
theorem sw_a4 : ∀ a, a < 8 → ∀ b, b < 256 → swN (256 * (32 + a) + b) = fb_ct (fun i => (256 * (32 + a) + b).testBit i) 16 := by decide +kernel
theorem sw_a5 : ∀ a, a < 8 → ∀ b, b < 256 → swN (256 * (40 + a) + b) = fb_ct (fun i => (256 * (40 + a) + b).testBit i) 16 := by decide +kernel
theorem sw_a6 : ∀ a, a < 8 → ∀ b, b < 256 → swN (256 * (48 + a) + b) = fb_ct (fun i => (256 * (48 + a) + b).testBit i) 16 := by decide +kernel
theorem sw_a7 : ∀ a, a < 8 → ∀ b, b < 256 → swN (256 * (56 + a) + b) = fb_ct (fun i => (256 * (56 + a) + b).testBit i) 16 := by decide +kernel
theorem sw_a8 : ∀ a, a < 8 → ∀ b, b < 256 → swN (256 * (64 + a) + b) = fb_ct (fun i => (256 * (64 + a) + b).testBit i) 16 := by decide +kernel
theorem sw_a9 : ∀ a, a < 8 → ∀ b, b < 256 → swN (256 * (72 + a) + b) = fb_ct (fun i => (256 * (72 + a) + b).testBit i) 16 := by decide +kernel
theorem sw_a10 : ∀ a, a < 8 → ∀ b, b < 256 → swN (256 * (80 + a) + b) = fb_ct (fun i => (256 * (80 + a) + b).testBit i) 16 := by decide +kernel
theorem sw_a11 : ∀ a, a < 8 → ∀ b, b < 256 → swN (256 * (88 + a) + b) = fb_ct (fun i => (256 * (88 + a) + b).testBit i) 16 := by decide +kernel
theorem sw_a12 : ∀ a, a < 8 → ∀ b, b < 256 → swN (256 * (96 + a) + b) = fb_ct (fun i => (256 * (96 + a) + b).testBit i) 16 := by decide +kernel
theorem sw_a13 : ∀ a, a < 8 → ∀ b, b < 256 → swN (256 * (104 + a) + b) = fb_ct (fun i => (256 * (104 + a) + b).testBit i) 16 := by decide +kernel
theorem sw_a14 : ∀ a, a < 8 → ∀ b, b < 256 → swN (256 * (112 + a) + b) = fb_ct (fun i => (256 * (112 + a) + b).testBit i) 16 := by decide +kernel
theorem sw_a15 : ∀ a, a < 8 → ∀ b, b < 256 → swN (256 * (120 + a) + b) = fb_ct (fun i => (256 * (120 + a) + b).testBit i) 16 := by decide +kernel
theorem sw_a16 : ∀ a, a < 8 → ∀ b, b < 256 → swN (256 * (128 + a) + b) = fb_ct (fun i => (256 * (128 + a) + b).testBit i) 16 := by decide +kernel
theorem sw_a17 : ∀ a, a < 8 → ∀ b, b < 256 → swN (256 * (136 + a) + b) = fb_ct (fun i => (256 * (136 + a) + b).testBit i) 16 := by decide +kernel
theorem sw_a18 : ∀ a, a < 8 → ∀ b, b < 256 → swN (256 * (144 + a) + b) = fb_ct (fun i => (256 * (144 + a) + b).testBit i) 16 := by decide +kernel
theorem sw_a19 : ∀ a, a < 8 → ∀ b, b < 256 → swN (256 * (152 + a) + b) = fb_ct (fun i => (256 * (152 + a) + b).testBit i) 16 := by decide +kernel
theorem sw_a20 : ∀ a, a < 8 → ∀ b, b < 256 → swN (256 * (160 + a) + b) = fb_ct (fun i => (256 * (160 + a) + b).testBit i) 16 := by decide +kernel
theorem sw_a21 : ∀ a, a < 8 → ∀ b, b < 256 → swN (256 * (168 + a) + b) = fb_ct (fun i => (256 * (168 + a) + b).testBit i) 16 := by decide +kernel
theorem sw_a22 : ∀ a, a < 8 → ∀ b, b < 256 → swN (256 * (176 + a) + b) = fb_ct (fun i => (256 * (176 + a) + b).testBit i) 16 := by decide +kernel
theorem sw_a23 : ∀ a, a < 8 → ∀ b, b < 256 → swN (256 * (184 + a) + b) = fb_ct (fun i => (256 * (184 + a) + b).testBit i) 16 := by decide +kernel
theorem sw_a24 : ∀ a, a < 8 → ∀ b, b < 256 → swN (256 * (192 + a) + b) = fb_ct (fun i => (256 * (192 + a) + b).testBit i) 16 := by decide +kernel
theorem sw_a25 : ∀ a, a < 8 → ∀ b, b < 256 → swN (256 * (200 + a) + b) = fb_ct (fun i => (256 * (200 + a) + b).testBit i) 16 := by decide +kernel
theorem sw_a26 : ∀ a, a < 8 → ∀ b, b < 256 → swN (256 * (208 + a) + b) = fb_ct (fun i => (256 * (208 + a) + b).testBit i) 16 := by decide +kernel
theorem sw_a27 : ∀ a, a < 8 → ∀ b, b < 256 → swN (256 * (216 + a) + b) = fb_ct (fun i => (256 * (216 + a) + b).testBit i) 16 := by decide +kernel
theorem sw_a28 : ∀ a, a < 8 → ∀ b, b < 256 → swN (256 * (224 + a) + b) = fb_ct (fun i => (256 * (224 + a) + b).testBit i) 16 := by decide +kernel
theorem sw_a29 : ∀ a, a < 8 → ∀ b, b < 256 → swN (256 * (232 + a) + b) = fb_ct (fun i => (256 * (232 + a) + b).testBit i) 16 := by decide +kernel
theorem sw_a30 : ∀ a, a < 8 → ∀ b, b < 256 → swN (256 * (240 + a) + b) = fb_ct (fun i => (256 * (240 + a) + b).testBit i) 16 := by decide +kernel
theorem sw_a31 : ∀ a, a < 8 → ∀ b, b < 256 → swN (256 * (248 + a) + b) = fb_ct (fun i => (256 * (248 + a) + b).testBit i) 16 := by decide +kernel
theorem sw_all : ∀ a, a < 256 → ∀ b, b < 256 → swN (256 * a + b) = fb_ct (fun i => (256 * a + b).testBit i) 16 := by
  intro a ha b hb
  by_cases h0 : a < 8
  · have h := sw_a0 (a - 0) (by omega) b hb
    rwa [show 0 + (a - 0) = a by omega] at h
  by_cases h1 : a < 16
  · have h := sw_a1 (a - 8) (by omega) b hb
    rwa [show 8 + (a - 8) = a by omega] at h
  by_cases h2 : a < 24
  · have h := sw_a2 (a - 16) (by omega) b hb
    rwa [show 16 + (a - 16) = a by omega] at h
  by_cases h3 : a < 32
  · have h := sw_a3 (a - 24) (by omega) b hb
    rwa [show 24 + (a - 24) = a by omega] at h
  by_cases h4 : a < 40
  · have h := sw_a4 (a - 32) (by omega) b hb
    rwa [show 32 + (a - 32) = a by omega] at h
  by_cases h5 : a < 48
  · have h := sw_a5 (a - 40) (by omega) b hb
    rwa [show 40 + (a - 40) = a by omega] at h
  by_cases h6 : a < 56
  · have h := sw_a6 (a - 48) (by omega) b hb
    rwa [show 48 + (a - 48) = a by omega] at h
  by_cases h7 : a < 64
  · have h := sw_a7 (a - 56) (by omega) b hb
    rwa [show 56 + (a - 56) = a by omega] at h
  by_cases h8 : a < 72
  · have h := sw_a8 (a - 64) (by omega) b hb
    rwa [show 64 + (a - 64) = a by omega] at h
  by_cases h9 : a < 80
  · have h := sw_a9 (a - 72) (by omega) b hb
    rwa [show 72 + (a - 72) = a by omega] at h
  by_cases h10 : a < 88
  · have h := sw_a10 (a - 80) (by omega) b hb
    rwa [show 80 + (a - 80) = a by omega] at h
  by_cases h11 : a < 96
  · have h := sw_a11 (a - 88) (by omega) b hb
    rwa [show 88 + (a - 88) = a by omega] at h
  by_cases h12 : a < 104
  · have h := sw_a12 (a - 96) (by omega) b hb
    rwa [show 96 + (a - 96) = a by omega] at h
  by_cases h13 : a < 112
  · have h := sw_a13 (a - 104) (by omega) b hb
    rwa [show 104 + (a - 104) = a by omega] at h
  by_cases h14 : a < 120
  · have h := sw_a14 (a - 112) (by omega) b hb
    rwa [show 112 + (a - 112) = a by omega] at h
  by_cases h15 : a < 128
  · have h := sw_a15 (a - 120) (by omega) b hb
    rwa [show 120 + (a - 120) = a by omega] at h
  by_cases h16 : a < 136
  · have h := sw_a16 (a - 128) (by omega) b hb
    rwa [show 128 + (a - 128) = a by omega] at h
  by_cases h17 : a < 144
  · have h := sw_a17 (a - 136) (by omega) b hb
    rwa [show 136 + (a - 136) = a by omega] at h
  by_cases h18 : a < 152
  · have h := sw_a18 (a - 144) (by omega) b hb
    rwa [show 144 + (a - 144) = a by omega] at h
  by_cases h19 : a < 160
  · have h := sw_a19 (a - 152) (by omega) b hb
    rwa [show 152 + (a - 152) = a by omega] at h
  by_cases h20 : a < 168
  · have h := sw_a20 (a - 160) (by omega) b hb
    rwa [show 160 + (a - 160) = a by omega] at h
  by_cases h21 : a < 176
  · have h := sw_a21 (a - 168) (by omega) b hb
    rwa [show 168 + (a - 168) = a by omega] at h
  by_cases h22 : a < 184
  · have h := sw_a22 (a - 176) (by omega) b hb
    rwa [show 176 + (a - 176) = a by omega] at h
  by_cases h23 : a < 192
  · have h := sw_a23 (a - 184) (by omega) b hb
    rwa [show 184 + (a - 184) = a by omega] at h
  by_cases h24 : a < 200
  · have h := sw_a24 (a - 192) (by omega) b hb
    rwa [show 192 + (a - 192) = a by omega] at h
  by_cases h25 : a < 208
  · have h := sw_a25 (a - 200) (by omega) b hb
    rwa [show 200 + (a - 200) = a by omega] at h
  by_cases h26 : a < 216
  · have h := sw_a26 (a - 208) (by omega) b hb
    rwa [show 208 + (a - 208) = a by omega] at h
  by_cases h27 : a < 224
  · have h := sw_a27 (a - 216) (by omega) b hb
    rwa [show 216 + (a - 216) = a by omega] at h
  by_cases h28 : a < 232
  · have h := sw_a28 (a - 224) (by omega) b hb
    rwa [show 224 + (a - 224) = a by omega] at h
  by_cases h29 : a < 240
  · have h := sw_a29 (a - 232) (by omega) b hb
    rwa [show 232 + (a - 232) = a by omega] at h
  by_cases h30 : a < 248
  · have h := sw_a30 (a - 240) (by omega) b hb
    rwa [show 240 + (a - 240) = a by omega] at h
  by_cases h31 : a < 256
  · have h := sw_a31 (a - 248) (by omega) b hb
    rwa [show 248 + (a - 248) = a by omega] at h
  omega
theorem sw_cnt {m : Nat} (h : m < 65536) : swN m = fb_ct (fun i => m.testBit i) 16 := by
  have := sw_all (m / 256) (by omega) (m % 256) (by omega)
  rwa [show 256 * (m / 256) + m % 256 = m by omega] at this
theorem sw_mset (P : Nat → Bool) : swN (mset P) = cnt P := by
  rw [sw_cnt (mset_lt P)]
  exact fb_ct_cong (fun k hk => mset_bit' P hk)
end
section
/-! LEAVES, 2 -/
section L2A
variable {Ω : Shp} {d : Nat} {K : Mth} {pc : Nat} {L : Lcs} {S : List Value} {I : MemI} {J : MemJ} {Q : Pst}
theorem wp_weak {L' : Lcs} (h : ∀ q ∈ L', q ∈ L) (k : WP Ω d K pc L' S I J Q) : WP Ω d K pc L S I J Q := by
  intro l G cA A fm p e s m args below meth c H locs ls X hP hS hl
  refine k l G cA A fm p e s m args below meth c H locs ls X hP hS (hl.less fun q hq => ?_)
  obtain ⟨x, hx, rfl⟩ := List.mem_map.mp hq
  exact List.mem_map.mpr ⟨x, h x hx, rfl⟩
/-- the locals from n on are no longer asked for -/
theorem wp_drop (n : Nat) (k : WP Ω d K pc (L.filter (fun q => Nat.blt q.1 n)) S I J Q) : WP Ω d K pc L S I J Q :=
  wp_weak (fun _ hq => (List.mem_filter.mp hq).1) k
theorem wp_post {Q' : Pst} (h : ∀ r I' J', Q r I' J' → Q' r I' J') (k : WP Ω d K pc L S I J Q) : WP Ω d K pc L S I J Q' := by
  intro l G cA A fm p e s m args below meth c H locs ls X hP hS hl T hT XT
  obtain ⟨t, st, o, h1, h2, ⟨⟨r, I', J', e1, hq, hp⟩, hF⟩, h3⟩ := k l G cA A fm p e s m args below meth c H locs ls X hP hS hl T hT XT
  exact ⟨t, st, o, h1, h2, ⟨⟨r, I', J', e1, h r I' J' hq, hp⟩, hF⟩, h3⟩
end L2A
/-- a set with one place changed -/
def upB (P : Nat → Bool) (c : Nat) (b : Bool) : Nat → Bool := fun i => if i = c then b else P i
theorem set_t {P : Nat → Bool} {c : Nat} (h : c < 16) : mset P ||| 2 ^ c = mset (upB P c true) := by
  rw [mset_one h, mset_or]
  refine mset_eq fun i _ => ?_
  by_cases hi : i = c <;> simp [upB, hi]
theorem set_f {P : Nat → Bool} {c : Nat} (h : c < 16) : nI (mset P) &&& (nI (2 ^ c) ^^^ (-1)) = nI (mset (upB P c false)) := by
  rw [mset_one h, mset_minus]
  congr 1
  refine mset_eq fun i _ => ?_
  by_cases hi : i = c <;> simp [upB, hi]
/-- ints by whole numbers -/
def zI (z : Int) : Int32 := Int32.ofInt z
theorem zI_n (n : Nat) : nI n = zI n := rfl
theorem zI_ti {z : Int} (h1 : -1000000 ≤ z) (h2 : z ≤ 1000000) : (zI z).toInt = z := by
  unfold zI
  exact Int32.toInt_ofInt_of_le (by have : Int32.minValue.toInt = -2147483648 := by decide
                                    omega) (by have : Int32.maxValue.toInt = 2147483647 := by decide
                                               omega)
theorem zI_lt {a b : Int} (h1 : -1000000 ≤ a ∧ a ≤ 1000000) (h2 : -1000000 ≤ b ∧ b ≤ 1000000) : zI a < zI b ↔ a < b := by
  rw [Int32.lt_iff_toInt_lt, zI_ti h1.1 h1.2, zI_ti h2.1 h2.2]
theorem zI_le {a b : Int} (h1 : -1000000 ≤ a ∧ a ≤ 1000000) (h2 : -1000000 ≤ b ∧ b ≤ 1000000) : zI a ≤ zI b ↔ a ≤ b := by
  rw [Int32.le_iff_toInt_le, zI_ti h1.1 h1.2, zI_ti h2.1 h2.2]
theorem zI_eq {a b : Int} (h1 : -1000000 ≤ a ∧ a ≤ 1000000) (h2 : -1000000 ≤ b ∧ b ≤ 1000000) : zI a = zI b ↔ a = b := by
  rw [← Int32.toInt_inj, zI_ti h1.1 h1.2, zI_ti h2.1 h2.2]
theorem zI_add (a b : Int) : zI a + zI b = zI (a + b) := by
  unfold zI; rw [Int32.ofInt_add]
theorem zI_sub (a b : Int) : zI a - zI b = zI (a - b) := by
  unfold zI; rw [Int32.ofInt_sub]
theorem zI_mul (a b : Int) : zI a * zI b = zI (a * b) := by
  unfold zI; rw [Int32.ofInt_mul]
theorem zI_0 : (0 : Int32) = zI 0 := by decide +kernel
/-- a cell or none -/
def ocI (o : Option Nat) : Int32 := match o with
  | none => -1
  | some c => nI c
def obN (o : Option Nat) : Nat := match o with
  | none => 0
  | some c => 2 ^ c
/-- the cell at (x, y) of a board of w times h -/
def cat (w h : Nat) (x y : Int) : Option Nat := if 0 ≤ x ∧ x < w ∧ 0 ≤ y ∧ y < h then some (y.toNat * w + x.toNat) else none
theorem cat_t {w h : Nat} {x y : Int} (h1 : 0 ≤ x ∧ x < w ∧ 0 ≤ y ∧ y < h) : zI y * nI w + zI x = ocI (cat w h x y) := by
  rw [cat, if_pos h1, zI_n, zI_mul, zI_add]
  show zI _ = nI _
  rw [zI_n]
  congr 1
  rw [Int.natCast_add, Int.natCast_mul, Int.toNat_of_nonneg h1.1, Int.toNat_of_nonneg h1.2.2.1]
theorem cat_f {w h : Nat} {x y : Int} (h1 : ¬ (0 ≤ x ∧ x < w ∧ 0 ≤ y ∧ y < h)) : (-1 : Int32) = ocI (cat w h x y) := by
  rw [cat, if_neg h1]; rfl
theorem cat_lt {w h c : Nat} {x y : Int} (hc : cat w h x y = some c) : c < w * h := by
  unfold cat at hc
  split at hc
  · rename_i h1
    cases hc
    have e1 : x.toNat < w := by omega
    have e2 : y.toNat + 1 ≤ h := by omega
    have e3 : (y.toNat + 1) * w ≤ h * w := Nat.mul_le_mul_right w e2
    rw [Nat.add_mul, Nat.one_mul] at e3
    rw [Nat.mul_comm w h]
    omega
  · cases hc
section L2B
variable {Ω : Shp} {d : Nat} {I : MemI} {J : MemJ}
theorem sp_X2_with {P : Nat → Bool} {c : Nat} {b : Bool} (hc : c < 16) : CALL Ω d kX2_with [.int (nI (mset P)), .int (nI (2 ^ c)), .int (bI b)] I J (PQ (.int (nI (mset (upB P c b)))) I J) := by
  refine call_of_wp (by decide) (Nat.le_of_ble_eq_true rfl) ?_
  refine wp_iload_n (pc := 0) (i := 2) dX2_with_0 rfl rfl ?_
  first | (refine wp_if_eqB (pc := 1) (tgt := 10) dX2_with_1 (by decide) (fun c_1 => ?_) (fun c_1 => ?_)) | (refine wp_if_eqN (pc := 1) (tgt := 10) dX2_with_1 (by decide) (by first | assumption | omega) (fun c_1 => ?_) (fun c_1 => ?_)) | (refine wp_if_eq (pc := 1) (tgt := 10) dX2_with_1 (by decide) (fun c_1 => ?_) (fun c_1 => ?_))
  · refine wp_iload_n (pc := 10) (i := 0) dX2_with_10 rfl rfl ?_
    refine wp_iload_n (pc := 11) (i := 1) dX2_with_11 rfl rfl ?_
    refine wp_iconst (pc := 12) (v := (-1)) dX2_with_12 (by decide +kernel) ?_
    refine wp_ixor (pc := 13) dX2_with_13 ?_
    first | (refine wp_iandN (pc := 14) dX2_with_14 ?_) | (refine wp_iand (pc := 14) dX2_with_14 ?_)
    refine wp_ireturn (pc := 15) dX2_with_15 rfl ?_
    first | exact pq_i (by rw [c_1]; exact congrArg nI (set_t hc)) | exact pq_i (by rw [c_1]; exact set_f hc)
  · refine wp_iload_n (pc := 4) (i := 0) dX2_with_4 rfl rfl ?_
    refine wp_iload_n (pc := 5) (i := 1) dX2_with_5 rfl rfl ?_
    first | (refine wp_iorN (pc := 6) dX2_with_6 ?_) | (refine wp_ior (pc := 6) dX2_with_6 ?_)
    refine wp_goto (pc := 7) (tgt := 15) dX2_with_7 (by decide) ?_
    refine wp_ireturn (pc := 15) dX2_with_15 rfl ?_
    first | exact pq_i (by rw [c_1]; exact congrArg nI (set_t hc)) | exact pq_i (by rw [c_1]; exact set_f hc)
theorem sp_X2_nibble {N c : Nat} (hN : N < 18446744073709551616) (hc : c < 16) : CALL Ω d kX2_nibble [.long (lN N), .int (nI c)] I J (PQ (.int (nI (N / 2 ^ (4 * c) % 16))) I J) := by
  refine call_of_wp (by decide) (Nat.le_of_ble_eq_true rfl) ?_
  refine wp_lload_n (pc := 0) (i := 0) dX2_nibble_0 rfl rfl ?_
  refine wp_iconst (pc := 1) (v := nI 4) dX2_nibble_1 (by decide +kernel) ?_
  refine wp_iload_n (pc := 2) (i := 2) dX2_nibble_2 rfl rfl ?_
  first | (refine wp_imulN (pc := 3) dX2_nibble_3 ?_) | (refine wp_imul (pc := 3) dX2_nibble_3 ?_)
  first | (refine wp_lushrN (pc := 4) dX2_nibble_4 (by first | assumption | omega) (by first | assumption | omega) ?_) | (refine wp_lushr (pc := 4) dX2_nibble_4 ?_)
  first | (refine wp_l2iN (pc := 5) dX2_nibble_5 ?_) | (refine wp_l2i (pc := 5) dX2_nibble_5 ?_)
  refine wp_bipush (pc := 6) (v := nI 15) dX2_nibble_6 (by decide +kernel) ?_
  first | (refine wp_iandN (pc := 8) dX2_nibble_8 ?_) | (refine wp_iand (pc := 8) dX2_nibble_8 ?_)
  refine wp_ireturn (pc := 9) dX2_nibble_9 rfl ?_
  exact pq_i (by rw [and_15])
theorem sp_X0_bitOf {o : Option Nat} (ho : ∀ c, o = some c → c < 16) : CALL Ω d kX0_bitOf [.int (ocI o)] I J (PQ (.int (nI (obN o))) I J) := by
  refine call_of_wp (by decide) (Nat.le_of_ble_eq_true rfl) ?_
  cases o with
  | none =>
    show WP Ω d kX0_bitOf 0 [(0, .int (-1))] [] I J _
    refine wp_iload_n (pc := 0) (i := 0) dX0_bitOf_0 rfl rfl ?_
    refine wp_iconst (pc := 1) (v := (-1)) dX0_bitOf_1 (by decide +kernel) ?_
    first | (refine wp_icmp_neN (pc := 2) (tgt := 9) dX0_bitOf_2 (by decide) (by first | assumption | omega) (by first | assumption | omega) (fun c_2 => ?_) (fun c_2 => ?_)) | (refine wp_icmp_ne (pc := 2) (tgt := 9) dX0_bitOf_2 (by decide) (fun c_2 => ?_) (fun c_2 => ?_))
    · exact absurd rfl c_2
    · refine wp_iconst (pc := 5) (v := nI 0) dX0_bitOf_5 (by decide +kernel) ?_
      refine wp_goto (pc := 6) (tgt := 12) dX0_bitOf_6 (by decide) ?_
      refine wp_ireturn (pc := 12) dX0_bitOf_12 rfl ?_
      exact pq_i rfl
  | some c =>
    have hc := ho c rfl
    show WP Ω d kX0_bitOf 0 [(0, .int (nI c))] [] I J _
    refine wp_iload_n (pc := 0) (i := 0) dX0_bitOf_0 rfl rfl ?_
    refine wp_iconst (pc := 1) (v := (-1)) dX0_bitOf_1 (by decide +kernel) ?_
    first | (refine wp_icmp_neN (pc := 2) (tgt := 9) dX0_bitOf_2 (by decide) (by first | assumption | omega) (by first | assumption | omega) (fun c_2 => ?_) (fun c_2 => ?_)) | (refine wp_icmp_ne (pc := 2) (tgt := 9) dX0_bitOf_2 (by decide) (fun c_2 => ?_) (fun c_2 => ?_))
    · refine wp_iconst (pc := 9) (v := nI 1) dX0_bitOf_9 (by decide +kernel) ?_
      refine wp_iload_n (pc := 10) (i := 0) dX0_bitOf_10 rfl rfl ?_
      first | (refine wp_ishl1 (pc := 11) dX0_bitOf_11 (by first | assumption | omega) ?_) | (refine wp_ishlN (pc := 11) dX0_bitOf_11 (by first | assumption | omega) (by first | assumption | omega) ?_) | (refine wp_ishl (pc := 11) dX0_bitOf_11 ?_)
      refine wp_ireturn (pc := 12) dX0_bitOf_12 rfl ?_
      exact pq_i rfl
    · exact absurd c_2 (fun z => nI_pos (n := c) (by omega) (by rw [z]; decide))
theorem sp_X0_cellAt {x y : Int} {w h : Nat} (hx : -1000 ≤ x ∧ x ≤ 1000) (hy : -1000 ≤ y ∧ y ≤ 1000) (hw : I 3 5 = nI w) (hh : I 3 6 = nI h) (hw4 : w ≤ 4) (hh4 : h ≤ 4) : CALL ΩC d kX0_cellAt [.ref 3, .int (zI x), .int (zI y)] I J (PQ (.int (ocI (cat w h x y))) I J) := by
  have bx : -1000000 ≤ x ∧ x ≤ 1000000 := ⟨by omega, by omega⟩
  have bY : -1000000 ≤ y ∧ y ≤ 1000000 := ⟨by omega, by omega⟩
  have bw : -1000000 ≤ (w : Int) ∧ (w : Int) ≤ 1000000 := ⟨by omega, by omega⟩
  have bh : -1000000 ≤ (h : Int) ∧ (h : Int) ≤ 1000000 := ⟨by omega, by omega⟩
  have b0 : -1000000 ≤ (0 : Int) ∧ (0 : Int) ≤ 1000000 := ⟨by omega, by omega⟩
  refine call_of_wp (by decide) (Nat.le_of_ble_eq_true rfl) ?_
  refine wp_iload_n (pc := 0) (i := 1) dX0_cellAt_0 rfl rfl ?_
  refine wp_if_lt (pc := 1) (tgt := 28) dX0_cellAt_1 (by decide) (fun c_1 => ?_) (fun c_1 => ?_)
  all_goals (rw [zI_0, zI_lt bx b0] at c_1)
  · refine wp_iconst (pc := 28) (v := nI 0) dX0_cellAt_28 (by decide +kernel) ?_
    refine wp_istore_n (pc := 29) (i := 3) dX0_cellAt_29 rfl (by decide) ?_
    refine wp_iload_n (pc := 30) (i := 3) dX0_cellAt_30 rfl rfl ?_
    refine wp_if_eqN (pc := 31) (tgt := 45) dX0_cellAt_31 (by decide) (by first | assumption | omega) (fun c_31 => ?_) (fun c_31 => ?_)
    · refine wp_iconst (pc := 45) (v := (-1)) dX0_cellAt_45 (by decide +kernel) ?_
      refine wp_ireturn (pc := 46) dX0_cellAt_46 rfl ?_
      first | exact pq_i (cat_f (by omega)) | exact pq_i (cat_t (by omega))
    · refine wp_iload_n (pc := 34) (i := 2) dX0_cellAt_34 rfl rfl ?_
      refine wp_aload_n (pc := 35) (i := 0) dX0_cellAt_35 rfl rfl (by first | assumption | rfl) ?_
      refine wp_getI (pc := 36) dX0_cellAt_36 lf_X0_27 (by first | assumption | rfl) (by first | assumption | rfl) rfl ?_
      rw [hw]
      refine wp_imul (pc := 39) dX0_cellAt_39 ?_
      refine wp_iload_n (pc := 40) (i := 1) dX0_cellAt_40 rfl rfl ?_
      refine wp_iadd (pc := 41) dX0_cellAt_41 ?_
      refine wp_goto (pc := 42) (tgt := 46) dX0_cellAt_42 (by decide) ?_
      refine wp_ireturn (pc := 46) dX0_cellAt_46 rfl ?_
      first | exact pq_i (cat_f (by omega)) | exact pq_i (cat_t (by omega))
  · refine wp_iload_n (pc := 4) (i := 1) dX0_cellAt_4 rfl rfl ?_
    refine wp_aload_n (pc := 5) (i := 0) dX0_cellAt_5 rfl rfl (by first | assumption | rfl) ?_
    refine wp_getI (pc := 6) dX0_cellAt_6 lf_X0_27 (by first | assumption | rfl) (by first | assumption | rfl) rfl ?_
    rw [hw]
    refine wp_icmp_ge (pc := 9) (tgt := 28) dX0_cellAt_9 (by decide) (fun c_9 => ?_) (fun c_9 => ?_)
    all_goals (rw [zI_n, zI_le bw bx] at c_9)
    · refine wp_iconst (pc := 28) (v := nI 0) dX0_cellAt_28 (by decide +kernel) ?_
      refine wp_istore_n (pc := 29) (i := 3) dX0_cellAt_29 rfl (by decide) ?_
      refine wp_iload_n (pc := 30) (i := 3) dX0_cellAt_30 rfl rfl ?_
      refine wp_if_eqN (pc := 31) (tgt := 45) dX0_cellAt_31 (by decide) (by first | assumption | omega) (fun c_31 => ?_) (fun c_31 => ?_)
      · refine wp_iconst (pc := 45) (v := (-1)) dX0_cellAt_45 (by decide +kernel) ?_
        refine wp_ireturn (pc := 46) dX0_cellAt_46 rfl ?_
        first | exact pq_i (cat_f (by omega)) | exact pq_i (cat_t (by omega))
      · refine wp_iload_n (pc := 34) (i := 2) dX0_cellAt_34 rfl rfl ?_
        refine wp_aload_n (pc := 35) (i := 0) dX0_cellAt_35 rfl rfl (by first | assumption | rfl) ?_
        refine wp_getI (pc := 36) dX0_cellAt_36 lf_X0_27 (by first | assumption | rfl) (by first | assumption | rfl) rfl ?_
        rw [hw]
        refine wp_imul (pc := 39) dX0_cellAt_39 ?_
        refine wp_iload_n (pc := 40) (i := 1) dX0_cellAt_40 rfl rfl ?_
        refine wp_iadd (pc := 41) dX0_cellAt_41 ?_
        refine wp_goto (pc := 42) (tgt := 46) dX0_cellAt_42 (by decide) ?_
        refine wp_ireturn (pc := 46) dX0_cellAt_46 rfl ?_
        first | exact pq_i (cat_f (by omega)) | exact pq_i (cat_t (by omega))
    · refine wp_iload_n (pc := 12) (i := 2) dX0_cellAt_12 rfl rfl ?_
      refine wp_if_lt (pc := 13) (tgt := 28) dX0_cellAt_13 (by decide) (fun c_13 => ?_) (fun c_13 => ?_)
      all_goals (rw [zI_0, zI_lt bY b0] at c_13)
      · refine wp_iconst (pc := 28) (v := nI 0) dX0_cellAt_28 (by decide +kernel) ?_
        refine wp_istore_n (pc := 29) (i := 3) dX0_cellAt_29 rfl (by decide) ?_
        refine wp_iload_n (pc := 30) (i := 3) dX0_cellAt_30 rfl rfl ?_
        refine wp_if_eqN (pc := 31) (tgt := 45) dX0_cellAt_31 (by decide) (by first | assumption | omega) (fun c_31 => ?_) (fun c_31 => ?_)
        · refine wp_iconst (pc := 45) (v := (-1)) dX0_cellAt_45 (by decide +kernel) ?_
          refine wp_ireturn (pc := 46) dX0_cellAt_46 rfl ?_
          first | exact pq_i (cat_f (by omega)) | exact pq_i (cat_t (by omega))
        · refine wp_iload_n (pc := 34) (i := 2) dX0_cellAt_34 rfl rfl ?_
          refine wp_aload_n (pc := 35) (i := 0) dX0_cellAt_35 rfl rfl (by first | assumption | rfl) ?_
          refine wp_getI (pc := 36) dX0_cellAt_36 lf_X0_27 (by first | assumption | rfl) (by first | assumption | rfl) rfl ?_
          rw [hw]
          refine wp_imul (pc := 39) dX0_cellAt_39 ?_
          refine wp_iload_n (pc := 40) (i := 1) dX0_cellAt_40 rfl rfl ?_
          refine wp_iadd (pc := 41) dX0_cellAt_41 ?_
          refine wp_goto (pc := 42) (tgt := 46) dX0_cellAt_42 (by decide) ?_
          refine wp_ireturn (pc := 46) dX0_cellAt_46 rfl ?_
          first | exact pq_i (cat_f (by omega)) | exact pq_i (cat_t (by omega))
      · refine wp_iload_n (pc := 16) (i := 2) dX0_cellAt_16 rfl rfl ?_
        refine wp_aload_n (pc := 17) (i := 0) dX0_cellAt_17 rfl rfl (by first | assumption | rfl) ?_
        refine wp_getI (pc := 18) dX0_cellAt_18 lf_X0_31 (by first | assumption | rfl) (by first | assumption | rfl) rfl ?_
        rw [hh]
        refine wp_icmp_ge (pc := 21) (tgt := 28) dX0_cellAt_21 (by decide) (fun c_21 => ?_) (fun c_21 => ?_)
        all_goals (rw [zI_n, zI_le bh bY] at c_21)
        · refine wp_iconst (pc := 28) (v := nI 0) dX0_cellAt_28 (by decide +kernel) ?_
          refine wp_istore_n (pc := 29) (i := 3) dX0_cellAt_29 rfl (by decide) ?_
          refine wp_iload_n (pc := 30) (i := 3) dX0_cellAt_30 rfl rfl ?_
          refine wp_if_eqN (pc := 31) (tgt := 45) dX0_cellAt_31 (by decide) (by first | assumption | omega) (fun c_31 => ?_) (fun c_31 => ?_)
          · refine wp_iconst (pc := 45) (v := (-1)) dX0_cellAt_45 (by decide +kernel) ?_
            refine wp_ireturn (pc := 46) dX0_cellAt_46 rfl ?_
            first | exact pq_i (cat_f (by omega)) | exact pq_i (cat_t (by omega))
          · refine wp_iload_n (pc := 34) (i := 2) dX0_cellAt_34 rfl rfl ?_
            refine wp_aload_n (pc := 35) (i := 0) dX0_cellAt_35 rfl rfl (by first | assumption | rfl) ?_
            refine wp_getI (pc := 36) dX0_cellAt_36 lf_X0_27 (by first | assumption | rfl) (by first | assumption | rfl) rfl ?_
            rw [hw]
            refine wp_imul (pc := 39) dX0_cellAt_39 ?_
            refine wp_iload_n (pc := 40) (i := 1) dX0_cellAt_40 rfl rfl ?_
            refine wp_iadd (pc := 41) dX0_cellAt_41 ?_
            refine wp_goto (pc := 42) (tgt := 46) dX0_cellAt_42 (by decide) ?_
            refine wp_ireturn (pc := 46) dX0_cellAt_46 rfl ?_
            first | exact pq_i (cat_f (by omega)) | exact pq_i (cat_t (by omega))
        · refine wp_iconst (pc := 24) (v := nI 1) dX0_cellAt_24 (by decide +kernel) ?_
          refine wp_goto (pc := 25) (tgt := 29) dX0_cellAt_25 (by decide) ?_
          refine wp_istore_n (pc := 29) (i := 3) dX0_cellAt_29 rfl (by decide) ?_
          refine wp_iload_n (pc := 30) (i := 3) dX0_cellAt_30 rfl rfl ?_
          refine wp_if_eqN (pc := 31) (tgt := 45) dX0_cellAt_31 (by decide) (by first | assumption | omega) (fun c_31 => ?_) (fun c_31 => ?_)
          · refine wp_iconst (pc := 45) (v := (-1)) dX0_cellAt_45 (by decide +kernel) ?_
            refine wp_ireturn (pc := 46) dX0_cellAt_46 rfl ?_
            first | exact pq_i (cat_f (by omega)) | exact pq_i (cat_t (by omega))
          · refine wp_iload_n (pc := 34) (i := 2) dX0_cellAt_34 rfl rfl ?_
            refine wp_aload_n (pc := 35) (i := 0) dX0_cellAt_35 rfl rfl (by first | assumption | rfl) ?_
            refine wp_getI (pc := 36) dX0_cellAt_36 lf_X0_27 (by first | assumption | rfl) (by first | assumption | rfl) rfl ?_
            rw [hw]
            refine wp_imul (pc := 39) dX0_cellAt_39 ?_
            refine wp_iload_n (pc := 40) (i := 1) dX0_cellAt_40 rfl rfl ?_
            refine wp_iadd (pc := 41) dX0_cellAt_41 ?_
            refine wp_goto (pc := 42) (tgt := 46) dX0_cellAt_42 (by decide) ?_
            refine wp_ireturn (pc := 46) dX0_cellAt_46 rfl ?_
            first | exact pq_i (cat_f (by omega)) | exact pq_i (cat_t (by omega))
/-- the greatest common divisor -/
theorem sp_X5_greatestCommon {a b : Nat} (ha : a ≤ 64) (hb : b ≤ 64) : CALL Ω d kX5_greatestCommon [.int (nI a), .int (nI b)] I J (PQ (.int (nI (Nat.gcd a b))) I J) := by
  have loop : ∀ n i x y, n + i = 64 → y ≤ n → x ≤ 64 → Nat.gcd x y = Nat.gcd a b → WP Ω d kX5_greatestCommon 7 [(0, .int (nI a)), (1, .int (nI b)), (2, .int (nI x)), (3, .int (nI y)), (4, .int (nI i))] [] I J (PQ (.int (nI (Nat.gcd a b))) I J) := by
    intro n
    induction n with
    | zero =>
      intro i x y h1 h2 h3 h4
      have hy : y = 0 := Nat.le_zero.mp h2
      subst hy
      rw [Nat.gcd_zero_right] at h4
      refine wp_iload (pc := 7) dX5_greatestCommon_7 rfl ?_
      refine wp_bipush (pc := 9) (v := nI 64) dX5_greatestCommon_9 (by decide +kernel) ?_
      first | (refine wp_icmp_geN (pc := 11) (tgt := 34) dX5_greatestCommon_11 (by decide) (by first | assumption | omega) (by first | assumption | omega) (fun c_11 => ?_) (fun c_11 => ?_)) | (refine wp_icmp_ge (pc := 11) (tgt := 34) dX5_greatestCommon_11 (by decide) (fun c_11 => ?_) (fun c_11 => ?_))
      · refine wp_iload_n (pc := 34) (i := 2) dX5_greatestCommon_34 rfl rfl ?_
        refine wp_ireturn (pc := 35) dX5_greatestCommon_35 rfl ?_
        exact pq_i (congrArg nI h4)
      · exact absurd (show 64 ≤ i from Nat.le_of_eq ((Nat.zero_add i).symm.trans h1).symm) c_11
    | succ n ih =>
      intro i x y h1 h2 h3 h4
      refine wp_iload (pc := 7) dX5_greatestCommon_7 rfl ?_
      refine wp_bipush (pc := 9) (v := nI 64) dX5_greatestCommon_9 (by decide +kernel) ?_
      first | (refine wp_icmp_geN (pc := 11) (tgt := 34) dX5_greatestCommon_11 (by decide) (by first | assumption | omega) (by first | assumption | omega) (fun c_11 => ?_) (fun c_11 => ?_)) | (refine wp_icmp_ge (pc := 11) (tgt := 34) dX5_greatestCommon_11 (by decide) (fun c_11 => ?_) (fun c_11 => ?_))
      · exact absurd c_11 (by omega)
      · refine wp_iload_n (pc := 14) (i := 3) dX5_greatestCommon_14 rfl rfl ?_
        first | (refine wp_if_leN (pc := 15) (tgt := 34) dX5_greatestCommon_15 (by decide) (by first | assumption | omega) (fun c_15 => ?_) (fun c_15 => ?_)) | (refine wp_if_le (pc := 15) (tgt := 34) dX5_greatestCommon_15 (by decide) (fun c_15 => ?_) (fun c_15 => ?_))
        all_goals (skip)
        · subst c_15
          rw [Nat.gcd_zero_right] at h4
          refine wp_iload_n (pc := 34) (i := 2) dX5_greatestCommon_34 rfl rfl ?_
          refine wp_ireturn (pc := 35) dX5_greatestCommon_35 rfl ?_
          exact pq_i (congrArg nI h4)
        · refine wp_iload_n (pc := 18) (i := 2) dX5_greatestCommon_18 rfl rfl ?_
          refine wp_iload_n (pc := 19) (i := 3) dX5_greatestCommon_19 rfl rfl ?_
          have h0 : 0 < y := c_15
          refine wp_iremN (pc := 20) dX5_greatestCommon_20 (by first | assumption | omega) (by first | assumption | omega) (by first | assumption | omega) ?_
          refine wp_istore (pc := 21) dX5_greatestCommon_21 (by decide) ?_
          refine wp_iload_n (pc := 23) (i := 3) dX5_greatestCommon_23 rfl rfl ?_
          refine wp_istore_n (pc := 24) (i := 2) dX5_greatestCommon_24 rfl (by decide) ?_
          refine wp_iload (pc := 25) dX5_greatestCommon_25 rfl ?_
          refine wp_istore_n (pc := 27) (i := 3) dX5_greatestCommon_27 rfl (by decide) ?_
          first | (refine wp_iincN (pc := 28) (m := 1) dX5_greatestCommon_28 rfl rfl (by decide) ?_) | (refine wp_iinc (pc := 28) dX5_greatestCommon_28 rfl rfl (by decide) ?_)
          refine wp_goto (pc := 31) (tgt := 7) dX5_greatestCommon_31 (by decide) ?_
          refine wp_drop 5 ?_
          exact ih (i + 1) y (x % y) (by omega) (by have := Nat.mod_lt x h0; omega) (by omega) (by rw [← h4, Nat.gcd_comm x y, Nat.gcd_rec y x, Nat.gcd_comm (x % y) y])
  refine call_of_wp (by decide) (Nat.le_of_ble_eq_true rfl) ?_
  refine wp_iload_n (pc := 0) (i := 0) dX5_greatestCommon_0 rfl rfl ?_
  refine wp_istore_n (pc := 1) (i := 2) dX5_greatestCommon_1 rfl (by decide) ?_
  refine wp_iload_n (pc := 2) (i := 1) dX5_greatestCommon_2 rfl rfl ?_
  refine wp_istore_n (pc := 3) (i := 3) dX5_greatestCommon_3 rfl (by decide) ?_
  refine wp_iconst (pc := 4) (v := nI 0) dX5_greatestCommon_4 (by decide +kernel) ?_
  refine wp_istore (pc := 5) dX5_greatestCommon_5 (by decide) ?_
  exact loop 64 0 a b rfl hb ha rfl
theorem sp_J6_bitCount {m : Nat} (hm : m < 65536) : CALL Ω d kJ6_bitCount_0f7a4 [.int (nI m)] I J (PQ (.int (nI (swN m))) I J) := by
  refine call_of_wp (by decide) (Nat.le_of_ble_eq_true rfl) ?_
  have h0 : m / 2 ^ 1 &&& 1431655765 ≤ m := Nat.le_trans Nat.and_le_left (by omega)
  obtain ⟨A, hA, eA⟩ : ∃ A, A < 65536 ∧ A = m - (m / 2 ^ 1 &&& 1431655765) := ⟨_, by omega, rfl⟩
  obtain ⟨B, hB, eB⟩ : ∃ B, B < 200000 ∧ B = (A &&& 858993459) + (A / 2 ^ 2 &&& 858993459) := ⟨_, by have := Nat.and_le_left (n := A) (m := 858993459); have := Nat.and_le_left (n := A / 2 ^ 2) (m := 858993459); omega, rfl⟩
  obtain ⟨C, hC, eC⟩ : ∃ C, C < 400000 ∧ C = (B + B / 2 ^ 4) &&& 252645135 := ⟨_, by have := Nat.and_le_left (n := B + B / 2 ^ 4) (m := 252645135); omega, rfl⟩
  obtain ⟨E, hE, eE⟩ : ∃ E, E < 800000 ∧ E = C + C / 2 ^ 8 := ⟨_, by omega, rfl⟩
  obtain ⟨F, hF, eF⟩ : ∃ F, F < 1600000 ∧ F = E + E / 2 ^ 16 := ⟨_, by omega, rfl⟩
  refine wp_iload_n (pc := 0) (i := 0) dJ6_bitCount_0f7a4_0 rfl rfl ?_
  refine wp_iload_n (pc := 1) (i := 0) dJ6_bitCount_0f7a4_1 rfl rfl ?_
  refine wp_iconst (pc := 2) (v := nI 1) dJ6_bitCount_0f7a4_2 (by decide +kernel) ?_
  first | (refine wp_iushrN (pc := 3) dJ6_bitCount_0f7a4_3 (by first | assumption | omega) (by first | assumption | omega) ?_) | (refine wp_iushr (pc := 3) dJ6_bitCount_0f7a4_3 ?_)
  refine wp_ldc_w (pc := 4) (v := nI 1431655765) dJ6_bitCount_0f7a4_4 kc_J6_265 ?_
  first | (refine wp_iandN (pc := 7) dJ6_bitCount_0f7a4_7 ?_) | (refine wp_iand (pc := 7) dJ6_bitCount_0f7a4_7 ?_)
  first | (refine wp_isubN (pc := 8) dJ6_bitCount_0f7a4_8 (by first | assumption | omega) ?_) | (refine wp_isub (pc := 8) dJ6_bitCount_0f7a4_8 ?_)
  rw [← eA]
  refine wp_istore_n (pc := 9) (i := 0) dJ6_bitCount_0f7a4_9 rfl (by decide) ?_
  refine wp_iload_n (pc := 10) (i := 0) dJ6_bitCount_0f7a4_10 rfl rfl ?_
  refine wp_ldc_w (pc := 11) (v := nI 858993459) dJ6_bitCount_0f7a4_11 kc_J6_266 ?_
  first | (refine wp_iandN (pc := 14) dJ6_bitCount_0f7a4_14 ?_) | (refine wp_iand (pc := 14) dJ6_bitCount_0f7a4_14 ?_)
  refine wp_iload_n (pc := 15) (i := 0) dJ6_bitCount_0f7a4_15 rfl rfl ?_
  refine wp_iconst (pc := 16) (v := nI 2) dJ6_bitCount_0f7a4_16 (by decide +kernel) ?_
  first | (refine wp_iushrN (pc := 17) dJ6_bitCount_0f7a4_17 (by first | assumption | omega) (by first | assumption | omega) ?_) | (refine wp_iushr (pc := 17) dJ6_bitCount_0f7a4_17 ?_)
  refine wp_ldc_w (pc := 18) (v := nI 858993459) dJ6_bitCount_0f7a4_18 kc_J6_266 ?_
  first | (refine wp_iandN (pc := 21) dJ6_bitCount_0f7a4_21 ?_) | (refine wp_iand (pc := 21) dJ6_bitCount_0f7a4_21 ?_)
  first | (refine wp_iaddN (pc := 22) dJ6_bitCount_0f7a4_22 ?_) | (refine wp_iadd (pc := 22) dJ6_bitCount_0f7a4_22 ?_)
  rw [← eB]
  refine wp_istore_n (pc := 23) (i := 0) dJ6_bitCount_0f7a4_23 rfl (by decide) ?_
  refine wp_iload_n (pc := 24) (i := 0) dJ6_bitCount_0f7a4_24 rfl rfl ?_
  refine wp_iload_n (pc := 25) (i := 0) dJ6_bitCount_0f7a4_25 rfl rfl ?_
  refine wp_iconst (pc := 26) (v := nI 4) dJ6_bitCount_0f7a4_26 (by decide +kernel) ?_
  first | (refine wp_iushrN (pc := 27) dJ6_bitCount_0f7a4_27 (by first | assumption | omega) (by first | assumption | omega) ?_) | (refine wp_iushr (pc := 27) dJ6_bitCount_0f7a4_27 ?_)
  first | (refine wp_iaddN (pc := 28) dJ6_bitCount_0f7a4_28 ?_) | (refine wp_iadd (pc := 28) dJ6_bitCount_0f7a4_28 ?_)
  refine wp_ldc_w (pc := 29) (v := nI 252645135) dJ6_bitCount_0f7a4_29 kc_J6_267 ?_
  first | (refine wp_iandN (pc := 32) dJ6_bitCount_0f7a4_32 ?_) | (refine wp_iand (pc := 32) dJ6_bitCount_0f7a4_32 ?_)
  rw [← eC]
  refine wp_istore_n (pc := 33) (i := 0) dJ6_bitCount_0f7a4_33 rfl (by decide) ?_
  refine wp_iload_n (pc := 34) (i := 0) dJ6_bitCount_0f7a4_34 rfl rfl ?_
  refine wp_iload_n (pc := 35) (i := 0) dJ6_bitCount_0f7a4_35 rfl rfl ?_
  refine wp_bipush (pc := 36) (v := nI 8) dJ6_bitCount_0f7a4_36 (by decide +kernel) ?_
  first | (refine wp_iushrN (pc := 38) dJ6_bitCount_0f7a4_38 (by first | assumption | omega) (by first | assumption | omega) ?_) | (refine wp_iushr (pc := 38) dJ6_bitCount_0f7a4_38 ?_)
  first | (refine wp_iaddN (pc := 39) dJ6_bitCount_0f7a4_39 ?_) | (refine wp_iadd (pc := 39) dJ6_bitCount_0f7a4_39 ?_)
  rw [← eE]
  refine wp_istore_n (pc := 40) (i := 0) dJ6_bitCount_0f7a4_40 rfl (by decide) ?_
  refine wp_iload_n (pc := 41) (i := 0) dJ6_bitCount_0f7a4_41 rfl rfl ?_
  refine wp_iload_n (pc := 42) (i := 0) dJ6_bitCount_0f7a4_42 rfl rfl ?_
  refine wp_bipush (pc := 43) (v := nI 16) dJ6_bitCount_0f7a4_43 (by decide +kernel) ?_
  first | (refine wp_iushrN (pc := 45) dJ6_bitCount_0f7a4_45 (by first | assumption | omega) (by first | assumption | omega) ?_) | (refine wp_iushr (pc := 45) dJ6_bitCount_0f7a4_45 ?_)
  first | (refine wp_iaddN (pc := 46) dJ6_bitCount_0f7a4_46 ?_) | (refine wp_iadd (pc := 46) dJ6_bitCount_0f7a4_46 ?_)
  rw [← eF]
  refine wp_istore_n (pc := 47) (i := 0) dJ6_bitCount_0f7a4_47 rfl (by decide) ?_
  refine wp_iload_n (pc := 48) (i := 0) dJ6_bitCount_0f7a4_48 rfl rfl ?_
  refine wp_bipush (pc := 49) (v := nI 63) dJ6_bitCount_0f7a4_49 (by decide +kernel) ?_
  first | (refine wp_iandN (pc := 51) dJ6_bitCount_0f7a4_51 ?_) | (refine wp_iand (pc := 51) dJ6_bitCount_0f7a4_51 ?_)
  refine wp_ireturn (pc := 52) dJ6_bitCount_0f7a4_52 rfl ?_
  exact pq_i (by subst eF; subst eE; subst eC; subst eB; subst eA; rfl)
theorem low_ex : ∀ n m : Nat, 0 < m → m < 2 ^ n → ∃ k, k < n ∧ m.testBit k = true ∧ m &&& (2 ^ n - m) = 2 ^ k
  | 0, m, h1, h2 => by simp at h2; omega
  | n + 1, m, h1, h2 => by
    rw [Nat.pow_succ] at h2 ⊢
    rcases Nat.mod_two_eq_zero_or_one m with h | h
    · obtain ⟨k, hk, hb, he⟩ := low_ex n (m / 2) (by omega) (by omega)
      refine ⟨k + 1, by omega, by rw [Nat.testBit_succ]; exact hb, ?_⟩
      apply Nat.eq_of_testBit_eq
      intro i
      cases i with
      | zero =>
        rw [Nat.testBit_and, Nat.testBit_zero, Nat.testBit_two_pow]
        simp [h]
      | succ i =>
        have e1 : (2 ^ n * 2 - m) / 2 = 2 ^ n - m / 2 := by omega
        rw [Nat.testBit_and, Nat.testBit_succ, Nat.testBit_succ, e1, ← Nat.testBit_and, he, Nat.testBit_two_pow, Nat.testBit_two_pow]
        simp
    · refine ⟨0, by omega, by rw [Nat.testBit_zero]; simp [h], ?_⟩
      apply Nat.eq_of_testBit_eq
      intro i
      cases i with
      | zero =>
        have e1 : (2 ^ n * 2 - m) % 2 = 1 := by omega
        rw [Nat.testBit_and, Nat.testBit_zero, Nat.testBit_zero]
        simp [h, e1]
      | succ i =>
        have e1 : (2 ^ n * 2 - m) / 2 = 2 ^ n - (m / 2 + 1) := by omega
        rw [Nat.testBit_and, Nat.testBit_succ, Nat.testBit_succ, e1, Nat.testBit_two_pow_sub_succ (by omega), Nat.testBit_two_pow]
        cases hq : (m / 2).testBit i <;> simp
theorem neg_n {m : Nat} (h : m ≤ 4294967296) : -(nI m) = nI (4294967296 - m) := by
  apply Int32.toBitVec_inj.mp
  rw [Int32.toBitVec_neg]
  apply BitVec.eq_of_toNat_eq
  show (-(BitVec.ofNat 32 m)).toNat = (BitVec.ofNat 32 (4294967296 - m)).toNat
  rw [BitVec.toNat_neg, BitVec.toNat_ofNat, BitVec.toNat_ofNat]
  omega
theorem sw_low : ∀ k, k < 16 → swN (2 ^ k - 1) = k := by decide +kernel
/-- lowest(m): a place of m -/
theorem sp_X5_lowest {m : Nat} (h0 : 0 < m) (hm : m < 65536) : CALL Ω (d + 1) kX5_lowest [.int (nI m)] I J (IQ (fun x I' J' => (∃ k, k < 16 ∧ m.testBit k = true ∧ x = nI k) ∧ I' = I ∧ J' = J)) := by
  obtain ⟨k, hk, hb, he⟩ := low_ex 32 m h0 (by omega)
  have hk16 : k < 16 := by
    rcases Nat.lt_or_ge k 16 with h | h
    · exact h
    · rw [lt_bit (n := 16) hm h] at hb; cases hb
  have hp : 0 < 2 ^ k := Nat.two_pow_pos k
  have hq : 2 ^ k < 65536 := Nat.pow_lt_pow_right (a := 2) (by decide) hk16
  refine call_of_wp (by decide) (Nat.le_of_ble_eq_true rfl) ?_
  refine wp_iload_n (pc := 0) (i := 0) dX5_lowest_0 rfl rfl ?_
  refine wp_iload_n (pc := 1) (i := 0) dX5_lowest_1 rfl rfl ?_
  refine wp_ineg (pc := 2) dX5_lowest_2 ?_
  rw [neg_n (by omega)]
  first | (refine wp_iandN (pc := 3) dX5_lowest_3 ?_) | (refine wp_iand (pc := 3) dX5_lowest_3 ?_)
  rw [he]
  refine wp_iconst (pc := 4) (v := nI 1) dX5_lowest_4 (by decide +kernel) ?_
  first | (refine wp_isubN (pc := 5) dX5_lowest_5 (by first | assumption | omega) ?_) | (refine wp_isub (pc := 5) dX5_lowest_5 ?_)
  refine wp_cSP1 (pc := 6) dX5_lowest_6 lm_X5_263 m_J6_bitCount_0f7a4 (Nat.le_of_ble_eq_true rfl) (sp_J6_bitCount (by first | assumption | omega)) ?_
  refine wp_ireturn (pc := 9) dX5_lowest_9 rfl ?_
  exact iq_i ⟨⟨k, hk16, hb, congrArg nI (sw_low k hk16)⟩, rfl, rfl⟩
/-! indexOf on the signs -/
theorem b_asc : ∀ b, b < 256 → ∀ j, j < 12 → ((nI (asc j) = (nI b).toInt8.toInt32) ↔ asc j = b) := by decide +kernel
/-- the sign of a byte -/
def sgn (b : Nat) : Option Nat := (List.range 12).find? (fun s => asc s == b)
theorem sgn_asc : ∀ j, j < 12 → sgn (asc j) = some j := by decide +kernel
theorem sgn_none {b : Nat} (h : ∀ i, i < 12 → ¬ asc i = b) : sgn b = none := by
  unfold sgn
  rw [List.find?_eq_none]
  intro x hx
  simpa using h x (List.mem_range.mp hx)
theorem sgn_lt {b s : Nat} (h : sgn b = some s) : s < 12 ∧ asc s = b := by
  have h1 := List.mem_range.mp (List.mem_of_find?_eq_some h)
  have h2 := List.find?_some h
  exact ⟨h1, by simpa using h2⟩
theorem sp_J1_canEncode {b : Nat} (hb : b < 256) : CALL Ω d kJ1_canEncode_9a6ad [.int (nI b)] I J (PQ (.int (nI 1)) I J) := by
  refine call_of_wp (by decide) (Nat.le_of_ble_eq_true rfl) ?_
  refine wp_iload_n (pc := 0) (i := 0) dJ1_canEncode_9a6ad_0 rfl rfl ?_
  refine wp_if_ltN (pc := 1) (tgt := 15) dJ1_canEncode_9a6ad_1 (by decide) (by first | assumption | omega) ?_
  refine wp_iload_n (pc := 4) (i := 0) dJ1_canEncode_9a6ad_4 rfl rfl ?_
  refine wp_sipush (pc := 5) (v := nI 255) dJ1_canEncode_9a6ad_5 (by decide +kernel) ?_
  first | (refine wp_icmp_gtN (pc := 8) (tgt := 15) dJ1_canEncode_9a6ad_8 (by decide) (by first | assumption | omega) (by first | assumption | omega) (fun c_8 => ?_) (fun c_8 => ?_)) | (refine wp_icmp_gt (pc := 8) (tgt := 15) dJ1_canEncode_9a6ad_8 (by decide) (fun c_8 => ?_) (fun c_8 => ?_))
  · exact absurd c_8 (by omega)
  · refine wp_iconst (pc := 11) (v := nI 1) dJ1_canEncode_9a6ad_11 (by decide +kernel) ?_
    refine wp_goto (pc := 12) (tgt := 16) dJ1_canEncode_9a6ad_12 (by decide) ?_
    refine wp_zreturn (pc := 16) dJ1_canEncode_9a6ad_16 rfl (by first | exact bI_narrow _ | exact nI_narrow01 (by omega) | decide +kernel | assumption) ?_
    exact pq_i rfl
theorem sp_J1_indexOfChar {q b : Nat} (h1 : 1006 ≤ q) (h2 : q < 1008) (hb : b < 256) : CALL Ω d kJ1_indexOfChar_4cfef [.ref q, .int (nI b), .int (nI 0), .int (nI 12)] I J (PQ (.int (ocI (sgn b))) I J) := by
  have hq : Nat.beq q 1010 = false := ro_beq (by omega)
  have loop : ∀ n j, n + j = 12 → (∀ i, i < j → ¬ asc i = b) → WP Ω d kJ1_indexOfChar_4cfef 7 [(0, .ref q), (1, .int (nI b)), (2, .int (nI 0)), (3, .int (nI 12)), (4, .int (nI b).toInt8.toInt32), (5, .int (nI j))] [] I J (PQ (.int (ocI (sgn b))) I J) := by
    intro n
    induction n with
    | zero =>
      intro j hj hn
      refine wp_iload (pc := 7) dJ1_indexOfChar_4cfef_7 rfl ?_
      refine wp_iload_n (pc := 9) (i := 3) dJ1_indexOfChar_4cfef_9 rfl rfl ?_
      first | (refine wp_icmp_geN (pc := 10) (tgt := 31) dJ1_indexOfChar_4cfef_10 (by decide) (by first | assumption | omega) (by first | assumption | omega) (fun c_10 => ?_) (fun c_10 => ?_)) | (refine wp_icmp_ge (pc := 10) (tgt := 31) dJ1_indexOfChar_4cfef_10 (by decide) (fun c_10 => ?_) (fun c_10 => ?_))
      · refine wp_iconst (pc := 31) (v := (-1)) dJ1_indexOfChar_4cfef_31 (by decide +kernel) ?_
        refine wp_ireturn (pc := 32) dJ1_indexOfChar_4cfef_32 rfl ?_
        exact pq_i (by rw [sgn_none (fun i hi => hn i (by omega))]; rfl)
      · exact absurd (show 12 ≤ j by omega) c_10
    | succ n ih =>
      intro j hj hn
      have hj12 : j < 12 := by omega
      refine wp_iload (pc := 7) dJ1_indexOfChar_4cfef_7 rfl ?_
      refine wp_iload_n (pc := 9) (i := 3) dJ1_indexOfChar_4cfef_9 rfl rfl ?_
      first | (refine wp_icmp_geN (pc := 10) (tgt := 31) dJ1_indexOfChar_4cfef_10 (by decide) (by first | assumption | omega) (by first | assumption | omega) (fun c_10 => ?_) (fun c_10 => ?_)) | (refine wp_icmp_ge (pc := 10) (tgt := 31) dJ1_indexOfChar_4cfef_10 (by decide) (fun c_10 => ?_) (fun c_10 => ?_))
      · exact absurd c_10 (by omega)
      · refine wp_aload_n (pc := 13) (i := 0) dJ1_indexOfChar_4cfef_13 rfl rfl (by first | assumption | rfl) ?_
        refine wp_iload (pc := 14) dJ1_indexOfChar_4cfef_14 rfl ?_
        refine wp_baldT (pc := 16) dJ1_indexOfChar_4cfef_16 h1 h2 hj12 ?_
        rw [ro_asc q h1 h2 j hj12]
        refine wp_iload (pc := 17) dJ1_indexOfChar_4cfef_17 rfl ?_
        refine wp_icmp_ne (pc := 19) (tgt := 25) dJ1_indexOfChar_4cfef_19 (by decide) (fun c_19 => ?_) (fun c_19 => ?_)
        · first | (refine wp_iincN (pc := 25) (m := 1) dJ1_indexOfChar_4cfef_25 rfl rfl (by decide) ?_) | (refine wp_iinc (pc := 25) dJ1_indexOfChar_4cfef_25 rfl rfl (by decide) ?_)
          refine wp_goto (pc := 28) (tgt := 7) dJ1_indexOfChar_4cfef_28 (by decide) ?_
          exact ih (j + 1) (by omega) (fun i hi => by
            rcases Nat.lt_succ_iff_lt_or_eq.mp hi with h | h
            · exact hn i h
            · subst h; exact fun z => c_19 ((b_asc b hb _ hj12).mpr z))
        · refine wp_iload (pc := 22) dJ1_indexOfChar_4cfef_22 rfl ?_
          refine wp_ireturn (pc := 24) dJ1_indexOfChar_4cfef_24 rfl ?_
          exact pq_i (by rw [← (b_asc b hb j hj12).mp c_19, sgn_asc j hj12]; rfl)
  refine call_of_wp (by decide) (Nat.le_of_ble_eq_true rfl) ?_
  refine wp_iload_n (pc := 0) (i := 1) dJ1_indexOfChar_4cfef_0 rfl rfl ?_
  refine wp_i2b (pc := 1) dJ1_indexOfChar_4cfef_1 ?_
  refine wp_istore (pc := 2) dJ1_indexOfChar_4cfef_2 (by decide) ?_
  refine wp_iload_n (pc := 4) (i := 2) dJ1_indexOfChar_4cfef_4 rfl rfl ?_
  refine wp_istore (pc := 5) dJ1_indexOfChar_4cfef_5 (by decide) ?_
  exact loop 12 0 rfl (fun i hi => absurd hi (by omega))
theorem sp_J1_indexOf {q b : Nat} (h1 : 1006 ≤ q) (h2 : q < 1008) (hb : b < 256) : CALL Ω (d + 1) kJ1_indexOf_4cfef [.ref q, .int (nI b), .int (nI 0), .int (nI 12)] I J (PQ (.int (ocI (sgn b))) I J) := by
  have hq : Nat.beq q 1010 = false := ro_beq (by omega)
  refine call_of_wp (by decide) (Nat.le_of_ble_eq_true rfl) ?_
  refine wp_iload_n (pc := 0) (i := 1) dJ1_indexOf_4cfef_0 rfl rfl ?_
  refine wp_cSP1 (pc := 1) dJ1_indexOf_4cfef_1 lm_J1_88 m_J1_canEncode_9a6ad (Nat.le_of_ble_eq_true rfl) (sp_J1_canEncode (by first | assumption | omega)) ?_
  first | (refine wp_if_neB (pc := 4) (tgt := 9) dJ1_indexOf_4cfef_4 (by decide) (fun c_4 => ?_) (fun c_4 => ?_)) | (refine wp_if_neN (pc := 4) (tgt := 9) dJ1_indexOf_4cfef_4 (by decide) (by first | assumption | omega) (fun c_4 => ?_) (fun c_4 => ?_)) | (refine wp_if_ne (pc := 4) (tgt := 9) dJ1_indexOf_4cfef_4 (by decide) (fun c_4 => ?_) (fun c_4 => ?_))
  · refine wp_iload_n (pc := 9) (i := 2) dJ1_indexOf_4cfef_9 rfl rfl ?_
    refine wp_iconst (pc := 10) (v := nI 0) dJ1_indexOf_4cfef_10 (by decide +kernel) ?_
    refine wp_mmax (pc := 11) dJ1_indexOf_4cfef_11 lk_max (by omega) (by omega) (Nat.le_of_ble_eq_true rfl) ?_
    rw [show max 0 0 = 0 from rfl]
    refine wp_istore_n (pc := 14) (i := 2) dJ1_indexOf_4cfef_14 rfl (by decide) ?_
    refine wp_iload_n (pc := 15) (i := 3) dJ1_indexOf_4cfef_15 rfl rfl ?_
    refine wp_aload_n (pc := 16) (i := 0) dJ1_indexOf_4cfef_16 rfl rfl (by first | assumption | rfl) ?_
    refine wp_alenT (pc := 17) dJ1_indexOf_4cfef_17 (by omega) (by omega) ?_
    refine wp_mmin (pc := 18) dJ1_indexOf_4cfef_18 lk_min (by omega) (by omega) (Nat.le_of_ble_eq_true rfl) ?_
    rw [show min 12 12 = 12 from rfl]
    refine wp_istore_n (pc := 21) (i := 3) dJ1_indexOf_4cfef_21 rfl (by decide) ?_
    refine wp_iload_n (pc := 22) (i := 2) dJ1_indexOf_4cfef_22 rfl rfl ?_
    refine wp_iload_n (pc := 23) (i := 3) dJ1_indexOf_4cfef_23 rfl rfl ?_
    first | (refine wp_icmp_ltN (pc := 24) (tgt := 29) dJ1_indexOf_4cfef_24 (by decide) (by first | assumption | omega) (by first | assumption | omega) (fun c_24 => ?_) (fun c_24 => ?_)) | (refine wp_icmp_lt (pc := 24) (tgt := 29) dJ1_indexOf_4cfef_24 (by decide) (fun c_24 => ?_) (fun c_24 => ?_))
    · refine wp_aload_n (pc := 29) (i := 0) dJ1_indexOf_4cfef_29 rfl rfl (by first | assumption | rfl) ?_
      refine wp_iload_n (pc := 30) (i := 1) dJ1_indexOf_4cfef_30 rfl rfl ?_
      refine wp_iload_n (pc := 31) (i := 2) dJ1_indexOf_4cfef_31 rfl rfl ?_
      refine wp_iload_n (pc := 32) (i := 3) dJ1_indexOf_4cfef_32 rfl rfl ?_
      refine wp_cSP4 (pc := 33) dJ1_indexOf_4cfef_33 lm_J1_95 m_J1_indexOfChar_4cfef (Nat.le_of_ble_eq_true rfl) (sp_J1_indexOfChar (by first | assumption | omega) (by first | assumption | omega) (by first | assumption | omega)) ?_
      refine wp_ireturn (pc := 36) dJ1_indexOf_4cfef_36 rfl ?_
      exact pq_i rfl
    · exact absurd (show 0 < 12 by omega) c_24
  · exact absurd c_4 (by decide)
theorem sp_J0_indexOf2 {q b : Nat} (h1 : 1004 ≤ q) (h2 : q < 1006) (hb : b < 256) : CALL Ω (d + 2) kJ0_indexOf_7cf53 [.ref q, .int (nI b), .int (nI 0)] I J (PQ (.int (ocI (sgn b))) I J) := by
  have hq : Nat.beq q 1010 = false := ro_beq (by omega)
  refine call_of_wp (by decide) (Nat.le_of_ble_eq_true rfl) ?_
  refine wp_aload_n (pc := 0) (i := 0) dJ0_indexOf_7cf53_0 rfl rfl (by first | assumption | rfl) ?_
  refine wp_cTP0 (pc := 1) dJ0_indexOf_7cf53_1 lm_J0_492 (by decide) m_J0_isLatin1_aae02 (by first | assumption | omega) (by first | assumption | omega) rfl (Nat.le_of_ble_eq_true rfl) (sp_J0_isLatin1 (by first | assumption | omega) (by first | assumption | omega)) ?_
  first | (refine wp_if_eqB (pc := 4) (tgt := 23) dJ0_indexOf_7cf53_4 (by decide) (fun c_4 => ?_) (fun c_4 => ?_)) | (refine wp_if_eqN (pc := 4) (tgt := 23) dJ0_indexOf_7cf53_4 (by decide) (by first | assumption | omega) (fun c_4 => ?_) (fun c_4 => ?_)) | (refine wp_if_eq (pc := 4) (tgt := 23) dJ0_indexOf_7cf53_4 (by decide) (fun c_4 => ?_) (fun c_4 => ?_))
  · exact absurd c_4 (by decide)
  · refine wp_aload_n (pc := 7) (i := 0) dJ0_indexOf_7cf53_7 rfl rfl (by first | assumption | rfl) ?_
    refine wp_getfV (pc := 8) dJ0_indexOf_7cf53_8 (by first | assumption | omega) (by first | assumption | omega) sf_J0_9 ?_
    refine wp_iload_n (pc := 11) (i := 1) dJ0_indexOf_7cf53_11 rfl rfl ?_
    refine wp_iload_n (pc := 12) (i := 2) dJ0_indexOf_7cf53_12 rfl rfl ?_
    refine wp_aload_n (pc := 13) (i := 0) dJ0_indexOf_7cf53_13 rfl rfl (by first | assumption | rfl) ?_
    refine wp_cTP0 (pc := 14) dJ0_indexOf_7cf53_14 lm_J0_505 (by decide) m_J0_length_8abf5 (by first | assumption | omega) (by first | assumption | omega) rfl (Nat.le_of_ble_eq_true rfl) (sp_J0_length (by first | assumption | omega) (by first | assumption | omega)) ?_
    refine wp_cSP4 (pc := 17) dJ0_indexOf_7cf53_17 lm_J0_637 m_J1_indexOf_4cfef (Nat.le_of_ble_eq_true rfl) (sp_J1_indexOf (by first | assumption | omega) (by first | assumption | omega) (by first | assumption | omega)) ?_
    refine wp_goto (pc := 20) (tgt := 36) dJ0_indexOf_7cf53_20 (by decide) ?_
    refine wp_ireturn (pc := 36) dJ0_indexOf_7cf53_36 rfl ?_
    exact pq_i rfl
theorem sp_J0_indexOf {q b : Nat} (h1 : 1004 ≤ q) (h2 : q < 1006) (hb : b < 256) : CALL Ω (d + 3) kJ0_indexOf_0f7a4 [.ref q, .int (nI b)] I J (PQ (.int (ocI (sgn b))) I J) := by
  have hq : Nat.beq q 1010 = false := ro_beq (by omega)
  refine call_of_wp (by decide) (Nat.le_of_ble_eq_true rfl) ?_
  refine wp_aload_n (pc := 0) (i := 0) dJ0_indexOf_0f7a4_0 rfl rfl (by first | assumption | rfl) ?_
  refine wp_iload_n (pc := 1) (i := 1) dJ0_indexOf_0f7a4_1 rfl rfl ?_
  refine wp_iconst (pc := 2) (v := nI 0) dJ0_indexOf_0f7a4_2 (by decide +kernel) ?_
  refine wp_cTP2 (pc := 3) dJ0_indexOf_0f7a4_3 lm_J0_633 (by decide) m_J0_indexOf_7cf53 (by first | assumption | omega) (by first | assumption | omega) rfl (Nat.le_of_ble_eq_true rfl) (sp_J0_indexOf2 (by first | assumption | omega) (by first | assumption | omega) (by first | assumption | omega)) ?_
  refine wp_ireturn (pc := 6) dJ0_indexOf_0f7a4_6 rfl ?_
  exact pq_i rfl
end L2B
end
section
/-! THE FIELD: its tables, where men aim -/
def dX (k : Nat) : Int := match k with | 0 => 0 | 1 => 1 | 2 => 1 | 3 => 1 | 4 => 0 | _ => -1
def dY (k : Nat) : Int := match k with | 0 => -1 | 1 => -1 | 2 => 0 | 3 => 1 | 4 => 1 | 5 => 1 | 6 => 0 | _ => -1
def eX (k : Nat) : Int := match k with | 0 => 1 | 1 => 2 | 2 => 2 | 3 => 1 | 4 => -1 | 5 => -2 | 6 => -2 | _ => -1
def eY (k : Nat) : Int := match k with | 0 => -2 | 1 => -1 | 2 => 1 | 3 => 2 | 4 => 2 | 5 => 1 | 6 => -1 | _ => -2
theorem ro_dX : ∀ k, k < 8 → (roT 1000).getD k 0 = zI (dX k) := by decide +kernel
theorem ro_dY : ∀ k, k < 8 → (roT 1001).getD k 0 = zI (dY k) := by decide +kernel
theorem ro_eX : ∀ k, k < 8 → (roT 1002).getD k 0 = zI (eX k) := by decide +kernel
theorem ro_eY : ∀ k, k < 8 → (roT 1003).getD k 0 = zI (eY k) := by decide +kernel
theorem dX_b (k : Nat) : -2 ≤ dX k ∧ dX k ≤ 2 := by unfold dX; split <;> omega
theorem dY_b (k : Nat) : -2 ≤ dY k ∧ dY k ≤ 2 := by unfold dY; split <;> omega
theorem eX_b (k : Nat) : -2 ≤ eX k ∧ eX k ≤ 2 := by unfold eX; split <;> omega
theorem eY_b (k : Nat) : -2 ≤ eY k ∧ eY k ≤ 2 := by unfold eY; split <;> omega
def anK (f : Nat → Bool) : Nat → Bool
  | 0 => false
  | n + 1 => anK f n || f n
theorem anK_iff {f : Nat → Bool} : ∀ n, anK f n = true ↔ ∃ k, k < n ∧ f k = true
  | 0 => by simp [anK]
  | n + 1 => by
    rw [anK, Bool.or_eq_true, anK_iff n]
    constructor
    · rintro (⟨k, h1, h2⟩ | h)
      · exact ⟨k, by omega, h2⟩
      · exact ⟨n, by omega, h⟩
    · rintro ⟨k, h1, h2⟩
      by_cases hk : k = n
      · subst hk; exact Or.inr h2
      · exact Or.inl ⟨k, by omega, h2⟩
theorem or_ob {P : Nat → Bool} {o : Option Nat} (ho : ∀ c, o = some c → c < 16) : mset P ||| obN o = mset (fun t => P t || o == some t) := by
  cases o with
  | none => simp [obN]
  | some c =>
    show mset P ||| 2 ^ c = _
    rw [set_t (ho c rfl)]
    refine mset_eq fun i _ => ?_
    by_cases hi : i = c
    · subst hi; simp [upB]
    · have : ¬ (some c == some i) = true := by simp; exact fun z => hi z.symm
      simp [upB, hi, Bool.eq_false_iff.mpr this]
/-- the place of a cell -/
def cxx (w c : Nat) : Int := ((c % w : Nat) : Int)
def cyy (w c : Nat) : Int := ((c / w : Nat) : Int)
def nbr (w h c k : Nat) : Option Nat := cat w h (cxx w c + dX k) (cyy w c + dY k)
def lep (w h c k : Nat) : Option Nat := cat w h (cxx w c + eX k) (cyy w c + eY k)
def kst (w h c t : Nat) : Bool := anK (fun k => nbr w h c k == some t) 8
def nst (w h c t : Nat) : Bool := anK (fun k => lep w h c k == some t) 8
/-- rows ahead: 0 WHITE up, 1 BLACK down -/
def ahd (s : Nat) : Int := if s = 0 then -1 else 1
def stp (w h s c t : Nat) : Bool := cat w h (cxx w c) (cyy w c + ahd s) == some t
def sla (w h s c t : Nat) : Bool := (cat w h (cxx w c - 1) (cyy w c + ahd s) == some t) || (cat w h (cxx w c + 1) (cyy w c + ahd s) == some t)
/-- along a way from where one is -/
def ray (w h : Nat) (F : Nat → Bool) (k : Nat) : Nat → Option Nat → Nat → Bool
  | 0, _, _ => false
  | _ + 1, none, _ => false
  | n + 1, some q, t => (some q == some t) || ray w h F k n (if F q = true then none else nbr w h q k) t
def lin (w h fw : Nat) (F : Nat → Bool) (c t : Nat) : Bool := anK (fun j => ray w h F (fw + 2 * j) 3 (nbr w h c (fw + 2 * j)) t) 4
def kd (s : Nat) : Nat := if s < 7 then s - 2 else s - 7
def sd (s : Nat) : Nat := if s < 7 then 0 else 1
/-- where a sign aims; F: cells that aren't empty -/
def aimP (w h s : Nat) (F : Nat → Bool) (c t : Nat) : Bool := if s < 2 then false else match kd s with
  | 0 => kst w h c t
  | 1 => lin w h 0 F c t
  | 2 => lin w h 1 F c t
  | 3 => nst w h c t
  | _ => sla w h (sd s) c t
/-- where it may go if that is empty -/
def gngP (w h s : Nat) (A : Nat → Bool) (c t : Nat) : Bool := if kdI s = nI 4 then stp w h (sd s) c t else A t
/-- the tables of one cell -/
def Tab (w h : Nat) (I : MemI) (c : Nat) : Prop := (∀ k, k < 8 → I 4 (k * 16 + c) = ocI (nbr w h c k)) ∧ I 5 c = nI (mset (kst w h c)) ∧ I 6 c = nI (mset (nst w h c)) ∧ ∀ s, s < 2 → I 7 (s * 16 + c) = nI (mset (sla w h s c)) ∧ I 8 (s * 16 + c) = nI (mset (stp w h s c))
/-- the field's picture -/
def Fld (w h last : Nat) (I : MemI) : Prop := (1 ≤ w ∧ w ≤ 4 ∧ 1 ≤ h ∧ h ≤ 4) ∧ I 3 5 = nI w ∧ I 3 6 = nI h ∧ I 3 7 = nI last ∧ I 3 8 = nI (w * h) ∧ ∀ c, c < w * h → Tab w h I c
theorem wh16 {w h : Nat} (hw : w ≤ 4) (hh : h ≤ 4) : w * h ≤ 16 := Nat.mul_le_mul hw hh
theorem cxx_b {w c : Nat} (hw : 1 ≤ w) (hw4 : w ≤ 4) : 0 ≤ cxx w c ∧ cxx w c < 4 := by
  have := Nat.mod_lt c (show 0 < w by omega)
  unfold cxx
  omega
theorem cyy_b {w c : Nat} (hc : c < 16) : 0 ≤ cyy w c ∧ cyy w c < 16 := by
  have h := Nat.div_le_self c w
  unfold cyy
  generalize c / w = q at h ⊢
  omega
theorem cat16 {w h : Nat} (hw : w ≤ 4) (hh : h ≤ 4) {x y : Int} : ∀ c, cat w h x y = some c → c < 16 := fun c hc => Nat.lt_of_lt_of_le (cat_lt hc) (wh16 hw hh)
section FLD
variable {d : Nat} {I : MemI} {J : MemJ}
theorem wp_alenT8 {Ω : Shp} {K : Mth} {pc i : Nat} {L : Lcs} {S : List Value} {Q : Pst} (hd : decode K.2.1 pc = .ok (.arraylength, 1)) (h1 : 1000 ≤ i) (h2 : i < 1004) (kk : WP Ω d K (pc + 1) L (.int (nI 8) :: S) I J Q) : WP Ω d K pc L (.ref i :: S) I J Q := by
  intro l G cA A fm p e s m args below meth c H locs ls X hP hS hl
  rw [List.map_cons, cv_ref (ro_beq (by omega))]
  obtain ⟨cell, e1, e2, e3, e4, e5, e6, -⟩ := ((act_roe X).1.2 i h1 h2).kept hS.2.1
  exact W.alen X.1 X.2.1 e1 e2 e5 rfl rfl hd (kk l G cA A fm p e s m args below meth c H locs ls X hP hS hl)
theorem sp_X5_atT {Ω : Shp} {a j : Nat} (h1 : 1000 ≤ a) (h2 : a < 1004) (hj : j < 8) : CALL Ω d kX5_at [.ref a, .int (nI j)] I J (PQ (.int ((roT a).getD j 0)) I J) := by
  have hb : Nat.beq a 1010 = false := ro_beq (by omega)
  refine call_of_wp (by decide) (Nat.le_of_ble_eq_true rfl) ?_
  refine wp_iload_n (pc := 0) (i := 1) dX5_at_0 rfl rfl ?_
  refine wp_if_ltN (pc := 1) (tgt := 16) dX5_at_1 (by decide) (by first | assumption | omega) ?_
  refine wp_iload_n (pc := 4) (i := 1) dX5_at_4 rfl rfl ?_
  refine wp_aload_n (pc := 5) (i := 0) dX5_at_5 rfl rfl (by first | assumption | rfl) ?_
  refine wp_alenT8 (pc := 6) dX5_at_6 h1 h2 ?_
  first | (refine wp_icmp_geN (pc := 7) (tgt := 16) dX5_at_7 (by decide) (by first | assumption | omega) (by first | assumption | omega) (fun c_7 => ?_) (fun c_7 => ?_)) | (refine wp_icmp_ge (pc := 7) (tgt := 16) dX5_at_7 (by decide) (fun c_7 => ?_) (fun c_7 => ?_))
  · exact absurd hj (by omega)
  · refine wp_aload_n (pc := 10) (i := 0) dX5_at_10 rfl rfl (by first | assumption | rfl) ?_
    refine wp_iload_n (pc := 11) (i := 1) dX5_at_11 rfl rfl ?_
    refine wp_ialdT (pc := 12) dX5_at_12 h1 h2 hj ?_
    refine wp_goto (pc := 13) (tgt := 17) dX5_at_13 (by decide) ?_
    refine wp_ireturn (pc := 17) dX5_at_17 rfl ?_
    exact pq_i rfl
/-- the ways' table filled for one cell, the first k ways -/
def srI (w h c k : Nat) (I : MemI) : MemI := fun a i => if a = 4 ∧ i % 16 = c ∧ i / 16 < k then ocI (nbr w h c (i / 16)) else I a i
theorem srI_0 {w h c : Nat} {I : MemI} : srI w h c 0 I = I := by
  funext a i; simp [srI]
theorem srI_s {w h c k : Nat} {I : MemI} (hc : c < 16) : uI (srI w h c k I) 4 (k * 16 + c) (ocI (nbr w h c k)) = srI w h c (k + 1) I := by
  funext a i
  unfold uI srI
  by_cases ha : a = 4
  · subst ha
    by_cases hi : i = k * 16 + c
    · subst hi
      have e1 : (k * 16 + c) % 16 = c := by omega
      have e2 : (k * 16 + c) / 16 = k := by omega
      simp [e1, e2]
    · rw [if_neg (fun z => hi z.2)]
      by_cases h1 : i % 16 = c ∧ i / 16 < k
      · rw [if_pos ⟨rfl, h1⟩, if_pos ⟨rfl, h1.1, by omega⟩]
      · rw [if_neg (fun z => h1 z.2), if_neg (fun z => h1 ⟨z.2.1, by omega⟩)]
  · rw [if_neg (fun z => ha z.1), if_neg (fun z => ha z.1), if_neg (fun z => ha z.1)]
theorem srI_o {w h c k a i : Nat} {I : MemI} (ha : a ≠ 4) : srI w h c k I a i = I a i := by simp [srI, ha]
theorem sp_X0_surround {w h c x y : Nat} (hw : I 3 5 = nI w) (hh : I 3 6 = nI h) (hw4 : w ≤ 4) (hh4 : h ≤ 4) (hc : c < 16) (hx : c % w = x) (hy : c / w = y) : CALL ΩC (d + 1) kX0_surround [.ref 3, .int (nI c), .int (nI x), .int (nI y)] I J (VQ (fun I' J' => I' = uI (uI (srI w h c 8 I) 5 c (nI (mset (kst w h c)))) 6 c (nI (mset (nst w h c))) ∧ J' = J)) := by
  have hx4 : x ≤ 16 := by rw [← hx]; have := Nat.mod_le c w; omega
  have hy4 : y ≤ 16 := by rw [← hy]; have := Nat.div_le_self c w; omega
  have loop : ∀ n k, n + k = 8 → WP ΩC (d + 1) kX0_surround 9 [(0, .ref 3), (1, .int (nI c)), (2, .int (nI x)), (3, .int (nI y)), (4, .int (nI (mset (fun t => anK (fun k => nbr w h c k == some t) k)))), (5, .int (nI (mset (fun t => anK (fun k => lep w h c k == some t) k)))), (6, .int (nI k))] [] (srI w h c k I) J (VQ (fun I' J' => I' = uI (uI (srI w h c 8 I) 5 c (nI (mset (kst w h c)))) 6 c (nI (mset (nst w h c))) ∧ J' = J)) := by
    intro n
    induction n with
    | zero =>
      intro k hk
      have hk8 : k = 8 := (Nat.zero_add k).symm.trans hk
      subst hk8
      refine wp_iload (pc := 9) dX0_surround_9 rfl ?_
      refine wp_bipush (pc := 11) (v := nI 8) dX0_surround_11 (by decide +kernel) ?_
      first | (refine wp_icmp_geN (pc := 13) (tgt := 106) dX0_surround_13 (by decide) (by first | assumption | omega) (by first | assumption | omega) (fun c_13 => ?_) (fun c_13 => ?_)) | (refine wp_icmp_ge (pc := 13) (tgt := 106) dX0_surround_13 (by decide) (fun c_13 => ?_) (fun c_13 => ?_))
      · refine wp_aload_n (pc := 106) (i := 0) dX0_surround_106 rfl rfl (by first | assumption | rfl) ?_
        refine wp_getR (pc := 107) dX0_surround_107 lf_X0_15 (by first | assumption | rfl) (by first | assumption | rfl) rfl (by first | assumption | rfl) (by first | assumption | rfl) ?_
        refine wp_iload_n (pc := 110) (i := 1) dX0_surround_110 rfl rfl ?_
        refine wp_iload (pc := 111) dX0_surround_111 rfl ?_
        refine wp_cSV3 (pc := 113) dX0_surround_113 lm_X0_88 m_X5_lay (Nat.le_of_ble_eq_true rfl) (sp_X5_lay (by first | assumption | rfl) (by first | assumption | rfl) (by first | assumption | omega) (by decide)) (fun I_113 J_113 h_113 => ?_)
        obtain ⟨rfl, rfl⟩ := h_113
        refine wp_aload_n (pc := 116) (i := 0) dX0_surround_116 rfl rfl (by first | assumption | rfl) ?_
        refine wp_getR (pc := 117) dX0_surround_117 lf_X0_18 (by first | assumption | rfl) (by first | assumption | rfl) rfl (by first | assumption | rfl) (by first | assumption | rfl) ?_
        refine wp_iload_n (pc := 120) (i := 1) dX0_surround_120 rfl rfl ?_
        refine wp_iload (pc := 121) dX0_surround_121 rfl ?_
        refine wp_cSV3 (pc := 123) dX0_surround_123 lm_X0_88 m_X5_lay (Nat.le_of_ble_eq_true rfl) (sp_X5_lay (by first | assumption | rfl) (by first | assumption | rfl) (by first | assumption | omega) (by decide)) (fun I_123 J_123 h_123 => ?_)
        obtain ⟨rfl, rfl⟩ := h_123
        refine wp_return (pc := 126) dX0_surround_126 rfl ?_
        exact vq_i ⟨rfl, rfl⟩
      · exact absurd (show 8 ≤ 8 by omega) c_13
    | succ n ih =>
      intro k hk
      have hk8 : k < 8 := by omega
      have hw' : srI w h c k I 3 5 = nI w := by rw [srI_o (by decide)]; exact hw
      have hh' : srI w h c k I 3 6 = nI h := by rw [srI_o (by decide)]; exact hh
      have b1 := dX_b k
      have b2 := dY_b k
      have b3 := eX_b k
      have b4 := eY_b k
      have e1 : cat w h ((x : Int) + dX k) ((y : Int) + dY k) = nbr w h c k := by rw [nbr, cxx, cyy, hx, hy]
      have e2 : cat w h ((x : Int) + eX k) ((y : Int) + eY k) = lep w h c k := by rw [lep, cxx, cyy, hx, hy]
      have h1 : ∀ q, nbr w h c k = some q → q < 16 := cat16 hw4 hh4
      have h2 : ∀ q, lep w h c k = some q → q < 16 := cat16 hw4 hh4
      have hw2 : srI w h c (k + 1) I 3 5 = nI w := by rw [srI_o (by decide)]; exact hw
      have hh2 : srI w h c (k + 1) I 3 6 = nI h := by rw [srI_o (by decide)]; exact hh
      refine wp_iload (pc := 9) dX0_surround_9 rfl ?_
      refine wp_bipush (pc := 11) (v := nI 8) dX0_surround_11 (by decide +kernel) ?_
      first | (refine wp_icmp_geN (pc := 13) (tgt := 106) dX0_surround_13 (by decide) (by first | assumption | omega) (by first | assumption | omega) (fun c_13 => ?_) (fun c_13 => ?_)) | (refine wp_icmp_ge (pc := 13) (tgt := 106) dX0_surround_13 (by decide) (fun c_13 => ?_) (fun c_13 => ?_))
      · exact absurd c_13 (by omega)
      · refine wp_aload_n (pc := 16) (i := 0) dX0_surround_16 rfl rfl (by first | assumption | rfl) ?_
        refine wp_iload_n (pc := 17) (i := 2) dX0_surround_17 rfl rfl ?_
        refine wp_gets (pc := 18) (i := 1000) dX0_surround_18 (nm := "ACROSS") (by decide) sf_X0_78 rfl ?_
        refine wp_iload (pc := 21) dX0_surround_21 rfl ?_
        refine wp_cSP2 (pc := 23) dX0_surround_23 lm_X0_51 m_X5_at (Nat.le_of_ble_eq_true rfl) (sp_X5_atT (by omega) (by omega) hk8) ?_
        rw [ro_dX k hk8]
        refine wp_iadd (pc := 26) dX0_surround_26 ?_
        rw [show nI x + zI (dX k) = zI ((x : Int) + dX k) by rw [zI_n, zI_add]]
        refine wp_iload_n (pc := 27) (i := 3) dX0_surround_27 rfl rfl ?_
        refine wp_gets (pc := 28) (i := 1001) dX0_surround_28 (nm := "DOWN") (by decide) sf_X0_81 rfl ?_
        refine wp_iload (pc := 31) dX0_surround_31 rfl ?_
        refine wp_cSP2 (pc := 33) dX0_surround_33 lm_X0_51 m_X5_at (Nat.le_of_ble_eq_true rfl) (sp_X5_atT (by omega) (by omega) hk8) ?_
        rw [ro_dY k hk8]
        refine wp_iadd (pc := 36) dX0_surround_36 ?_
        rw [show nI y + zI (dY k) = zI ((y : Int) + dY k) by rw [zI_n, zI_add]]
        refine wp_cVP2 (pc := 37) (ci := 0) dX0_surround_37 lm_X0_84 m_X0_cellAt (by first | assumption | rfl) (by first | assumption | rfl) (by decide) rfl (Nat.le_of_ble_eq_true rfl) (sp_X0_cellAt (by omega) (by omega) hw' hh' hw4 hh4) ?_
        rw [e1]
        refine wp_istore (pc := 40) dX0_surround_40 (by decide) ?_
        refine wp_aload_n (pc := 42) (i := 0) dX0_surround_42 rfl rfl (by first | assumption | rfl) ?_
        refine wp_getR (pc := 43) dX0_surround_43 lf_X0_11 (by first | assumption | rfl) (by first | assumption | rfl) rfl (by first | assumption | rfl) (by first | assumption | rfl) ?_
        refine wp_iload (pc := 46) dX0_surround_46 rfl ?_
        refine wp_bipush (pc := 48) (v := nI 16) dX0_surround_48 (by decide +kernel) ?_
        first | (refine wp_imulN (pc := 50) dX0_surround_50 ?_) | (refine wp_imul (pc := 50) dX0_surround_50 ?_)
        refine wp_iload_n (pc := 51) (i := 1) dX0_surround_51 rfl rfl ?_
        first | (refine wp_iaddN (pc := 52) dX0_surround_52 ?_) | (refine wp_iadd (pc := 52) dX0_surround_52 ?_)
        refine wp_iload (pc := 53) dX0_surround_53 rfl ?_
        refine wp_cSV3 (pc := 55) dX0_surround_55 lm_X0_88 m_X5_lay (Nat.le_of_ble_eq_true rfl) (sp_X5_lay (by first | assumption | rfl) (by first | assumption | rfl) (by first | assumption | omega) (by decide)) (fun I_55 J_55 h_55 => ?_)
        obtain ⟨rfl, rfl⟩ := h_55
        rw [srI_s hc]
        refine wp_iload (pc := 58) dX0_surround_58 rfl ?_
        refine wp_iload (pc := 60) dX0_surround_60 rfl ?_
        refine wp_cSP1 (pc := 62) dX0_surround_62 lm_X0_92 m_X0_bitOf (Nat.le_of_ble_eq_true rfl) (sp_X0_bitOf (by assumption)) ?_
        first | (refine wp_iorN (pc := 65) dX0_surround_65 ?_) | (refine wp_ior (pc := 65) dX0_surround_65 ?_)
        rw [or_ob h1]
        refine wp_istore (pc := 66) dX0_surround_66 (by decide) ?_
        refine wp_iload (pc := 68) dX0_surround_68 rfl ?_
        refine wp_aload_n (pc := 70) (i := 0) dX0_surround_70 rfl rfl (by first | assumption | rfl) ?_
        refine wp_iload_n (pc := 71) (i := 2) dX0_surround_71 rfl rfl ?_
        refine wp_gets (pc := 72) (i := 1002) dX0_surround_72 (nm := "LEAP_ACROSS") (by decide) sf_X0_95 rfl ?_
        refine wp_iload (pc := 75) dX0_surround_75 rfl ?_
        refine wp_cSP2 (pc := 77) dX0_surround_77 lm_X0_51 m_X5_at (Nat.le_of_ble_eq_true rfl) (sp_X5_atT (by omega) (by omega) hk8) ?_
        rw [ro_eX k hk8]
        refine wp_iadd (pc := 80) dX0_surround_80 ?_
        rw [show nI x + zI (eX k) = zI ((x : Int) + eX k) by rw [zI_n, zI_add]]
        refine wp_iload_n (pc := 81) (i := 3) dX0_surround_81 rfl rfl ?_
        refine wp_gets (pc := 82) (i := 1003) dX0_surround_82 (nm := "LEAP_DOWN") (by decide) sf_X0_98 rfl ?_
        refine wp_iload (pc := 85) dX0_surround_85 rfl ?_
        refine wp_cSP2 (pc := 87) dX0_surround_87 lm_X0_51 m_X5_at (Nat.le_of_ble_eq_true rfl) (sp_X5_atT (by omega) (by omega) hk8) ?_
        rw [ro_eY k hk8]
        refine wp_iadd (pc := 90) dX0_surround_90 ?_
        rw [show nI y + zI (eY k) = zI ((y : Int) + eY k) by rw [zI_n, zI_add]]
        refine wp_cVP2 (pc := 91) (ci := 0) dX0_surround_91 lm_X0_84 m_X0_cellAt (by first | assumption | rfl) (by first | assumption | rfl) (by decide) rfl (Nat.le_of_ble_eq_true rfl) (sp_X0_cellAt (by omega) (by omega) hw2 hh2 hw4 hh4) ?_
        rw [e2]
        refine wp_cSP1 (pc := 94) dX0_surround_94 lm_X0_92 m_X0_bitOf (Nat.le_of_ble_eq_true rfl) (sp_X0_bitOf (by assumption)) ?_
        first | (refine wp_iorN (pc := 97) dX0_surround_97 ?_) | (refine wp_ior (pc := 97) dX0_surround_97 ?_)
        rw [or_ob h2]
        refine wp_istore (pc := 98) dX0_surround_98 (by decide) ?_
        first | (refine wp_iincN (pc := 100) (m := 1) dX0_surround_100 rfl rfl (by decide) ?_) | (refine wp_iinc (pc := 100) dX0_surround_100 rfl rfl (by decide) ?_)
        refine wp_goto (pc := 103) (tgt := 9) dX0_surround_103 (by decide) ?_
        refine wp_drop 7 ?_
        exact ih (k + 1) (by omega)
  refine call_of_wp (by decide) (Nat.le_of_ble_eq_true rfl) ?_
  refine wp_iconst (pc := 0) (v := nI 0) dX0_surround_0 (by decide +kernel) ?_
  refine wp_istore (pc := 1) dX0_surround_1 (by decide) ?_
  refine wp_iconst (pc := 3) (v := nI 0) dX0_surround_3 (by decide +kernel) ?_
  refine wp_istore (pc := 4) dX0_surround_4 (by decide) ?_
  refine wp_iconst (pc := 6) (v := nI 0) dX0_surround_6 (by decide +kernel) ?_
  refine wp_istore (pc := 7) dX0_surround_7 (by decide) ?_
  have h := loop 8 0 rfl
  rw [srI_0] at h
  have e0 : ∀ f : Nat → Nat → Bool, mset (fun t => anK (f t) 0) = 0 := fun f => mset_none
  rw [e0, e0] at h
  exact h
theorem sp_X0_lookAhead {w h i x : Nat} {y : Int} (hw : I 3 5 = nI w) (hh : I 3 6 = nI h) (hw4 : w ≤ 4) (hh4 : h ≤ 4) (hi : i < 32) (hx : x ≤ 16) (hy : -100 ≤ y ∧ y ≤ 100) : CALL ΩC (d + 1) kX0_lookAhead [.ref 3, .int (nI i), .int (nI x), .int (zI y)] I J (VQ (fun I' J' => I' = uI (uI I 8 i (nI (mset (fun t => cat w h x y == some t)))) 7 i (nI (mset (fun t => (cat w h ((x : Int) - 1) y == some t) || (cat w h ((x : Int) + 1) y == some t)))) ∧ J' = J)) := by
  have g : ∀ {z : Int} (c : Nat), cat w h z y = some c → c < 16 := fun c => cat16 hw4 hh4 c
  have e0 : obN (cat w h x y) = mset (fun t => cat w h x y == some t) := by
    have := or_ob (P := fun _ => false) (g (z := x))
    rw [mset_none, Nat.zero_or] at this
    rw [this]
    exact mset_eq fun t _ => by simp
  have e1 : obN (cat w h ((x : Int) - 1) y) ||| obN (cat w h ((x : Int) + 1) y) = mset (fun t => (cat w h ((x : Int) - 1) y == some t) || (cat w h ((x : Int) + 1) y == some t)) := by
    have h1 := or_ob (P := fun _ => false) (g (z := (x : Int) - 1))
    rw [mset_none, Nat.zero_or] at h1
    rw [h1, or_ob (g (z := (x : Int) + 1))]
    exact mset_eq fun t _ => by simp
  refine call_of_wp (by decide) (Nat.le_of_ble_eq_true rfl) ?_
  refine wp_aload_n (pc := 0) (i := 0) dX0_lookAhead_0 rfl rfl (by first | assumption | rfl) ?_
  refine wp_getR (pc := 1) dX0_lookAhead_1 lf_X0_24 (by first | assumption | rfl) (by first | assumption | rfl) rfl (by first | assumption | rfl) (by first | assumption | rfl) ?_
  refine wp_iload_n (pc := 4) (i := 1) dX0_lookAhead_4 rfl rfl ?_
  refine wp_aload_n (pc := 5) (i := 0) dX0_lookAhead_5 rfl rfl (by first | assumption | rfl) ?_
  refine wp_iload_n (pc := 6) (i := 2) dX0_lookAhead_6 rfl rfl ?_
  refine wp_iload_n (pc := 7) (i := 3) dX0_lookAhead_7 rfl rfl ?_
  rw [show nI x = zI (x : Int) from rfl]
  refine wp_cVP2 (pc := 8) (ci := 0) dX0_lookAhead_8 lm_X0_84 m_X0_cellAt (by first | assumption | rfl) (by first | assumption | rfl) (by decide) rfl (Nat.le_of_ble_eq_true rfl) (sp_X0_cellAt (by omega) (by omega) hw hh hw4 hh4) ?_
  refine wp_cSP1 (pc := 11) dX0_lookAhead_11 lm_X0_92 m_X0_bitOf (Nat.le_of_ble_eq_true rfl) (sp_X0_bitOf g) ?_
  rw [e0]
  refine wp_cSV3 (pc := 14) dX0_lookAhead_14 lm_X0_88 m_X5_lay (Nat.le_of_ble_eq_true rfl) (sp_X5_lay (by first | assumption | rfl) (by first | assumption | rfl) (by first | assumption | omega) (by decide)) (fun I_14 J_14 h_14 => ?_)
  obtain ⟨rfl, rfl⟩ := h_14
  have hw2 : uI I 8 i (nI (mset (fun t => cat w h x y == some t))) 3 5 = nI w := by simp [uI, hw]
  have hh2 : uI I 8 i (nI (mset (fun t => cat w h x y == some t))) 3 6 = nI h := by simp [uI, hh]
  refine wp_aload_n (pc := 17) (i := 0) dX0_lookAhead_17 rfl rfl (by first | assumption | rfl) ?_
  refine wp_getR (pc := 18) dX0_lookAhead_18 lf_X0_21 (by first | assumption | rfl) (by first | assumption | rfl) rfl (by first | assumption | rfl) (by first | assumption | rfl) ?_
  refine wp_iload_n (pc := 21) (i := 1) dX0_lookAhead_21 rfl rfl ?_
  refine wp_aload_n (pc := 22) (i := 0) dX0_lookAhead_22 rfl rfl (by first | assumption | rfl) ?_
  refine wp_iload_n (pc := 23) (i := 2) dX0_lookAhead_23 rfl rfl ?_
  refine wp_iconst (pc := 24) (v := nI 1) dX0_lookAhead_24 (by decide +kernel) ?_
  refine wp_isub (pc := 25) dX0_lookAhead_25 ?_
  rw [show zI (x : Int) - nI 1 = zI ((x : Int) - 1) by rw [zI_n, zI_sub]; rfl]
  refine wp_iload_n (pc := 26) (i := 3) dX0_lookAhead_26 rfl rfl ?_
  refine wp_cVP2 (pc := 27) (ci := 0) dX0_lookAhead_27 lm_X0_84 m_X0_cellAt (by first | assumption | rfl) (by first | assumption | rfl) (by decide) rfl (Nat.le_of_ble_eq_true rfl) (sp_X0_cellAt (by omega) (by omega) hw2 hh2 hw4 hh4) ?_
  refine wp_cSP1 (pc := 30) dX0_lookAhead_30 lm_X0_92 m_X0_bitOf (Nat.le_of_ble_eq_true rfl) (sp_X0_bitOf g) ?_
  refine wp_aload_n (pc := 33) (i := 0) dX0_lookAhead_33 rfl rfl (by first | assumption | rfl) ?_
  refine wp_iload_n (pc := 34) (i := 2) dX0_lookAhead_34 rfl rfl ?_
  refine wp_iconst (pc := 35) (v := nI 1) dX0_lookAhead_35 (by decide +kernel) ?_
  refine wp_iadd (pc := 36) dX0_lookAhead_36 ?_
  rw [show zI (x : Int) + nI 1 = zI ((x : Int) + 1) by rw [zI_n, zI_add]; rfl]
  refine wp_iload_n (pc := 37) (i := 3) dX0_lookAhead_37 rfl rfl ?_
  refine wp_cVP2 (pc := 38) (ci := 0) dX0_lookAhead_38 lm_X0_84 m_X0_cellAt (by first | assumption | rfl) (by first | assumption | rfl) (by decide) rfl (Nat.le_of_ble_eq_true rfl) (sp_X0_cellAt (by omega) (by omega) hw2 hh2 hw4 hh4) ?_
  refine wp_cSP1 (pc := 41) dX0_lookAhead_41 lm_X0_92 m_X0_bitOf (Nat.le_of_ble_eq_true rfl) (sp_X0_bitOf g) ?_
  first | (refine wp_iorN (pc := 44) dX0_lookAhead_44 ?_) | (refine wp_ior (pc := 44) dX0_lookAhead_44 ?_)
  rw [e1]
  refine wp_cSV3 (pc := 45) dX0_lookAhead_45 lm_X0_88 m_X5_lay (Nat.le_of_ble_eq_true rfl) (sp_X5_lay (by first | assumption | rfl) (by first | assumption | rfl) (by first | assumption | omega) (by decide)) (fun I_45 J_45 h_45 => ?_)
  obtain ⟨rfl, rfl⟩ := h_45
  refine wp_return (pc := 48) dX0_lookAhead_48 rfl ?_
  exact vq_i ⟨rfl, rfl⟩
end FLD
end
section
/-! THE FIELD, 2: shape, lines, aimed, going, all -/
def GD (w h last m : Nat) (I0 I : MemI) : Prop := I 3 5 = nI w ∧ I 3 6 = nI h ∧ I 3 7 = nI last ∧ I 3 8 = nI (w * h) ∧ (∀ c, c < m → Tab w h I c) ∧ ∀ a i, (a < 3 ∨ 9 ≤ a) → I a i = I0 a i
/-- one cell laid -/
def oneC (w h c : Nat) (I : MemI) : MemI :=
  uI (uI (uI (uI (uI (uI (srI w h c 8 I) 5 c (nI (mset (kst w h c)))) 6 c (nI (mset (nst w h c)))) 8 c (nI (mset (stp w h 0 c)))) 7 c (nI (mset (sla w h 0 c)))) 8 (16 + c) (nI (mset (stp w h 1 c)))) 7 (16 + c) (nI (mset (sla w h 1 c)))
theorem oneC_tab {w h c : Nat} {I : MemI} (hc : c < 16) : Tab w h (oneC w h c I) c := by
  refine ⟨fun k hk => ?_, ?_, ?_, fun s hs => ?_⟩
  · have e1 : (k * 16 + c) % 16 = c := by omega
    have e2 : (k * 16 + c) / 16 = k := by omega
    simp [oneC, uI, srI, e1, e2, hk]
  · simp [oneC, uI]
  · simp [oneC, uI]
  · rcases (show s = 0 ∨ s = 1 by omega) with rfl | rfl
    · have h1 : ¬ c = 16 + c := by omega
      simp [oneC, uI, h1]
    · simp [oneC, uI]
theorem oneC_keep {w h c c' : Nat} {I : MemI} (hc : c < 16) (hc' : c' < 16) (hne : c' ≠ c) (ht : Tab w h I c') : Tab w h (oneC w h c I) c' := by
  obtain ⟨h1, h2, h3, h4⟩ := ht
  refine ⟨fun k hk => ?_, ?_, ?_, fun s hs => ?_⟩
  · have e1 : ¬ c' % 16 = c := by omega
    have := h1 k hk
    simp [oneC, uI, srI, e1, this]
  · have e0 : ¬ c' = c := hne
    simp [oneC, uI, srI, e0, h2]
  · have e0 : ¬ c' = c := hne
    simp [oneC, uI, srI, e0, h3]
  · have e0 : ¬ s * 16 + c' = c := by omega
    have e1 : ¬ s * 16 + c' = 16 + c := by omega
    have := h4 s hs
    simp [oneC, uI, srI, e0, e1, this]
theorem oneC_o {w h c a i : Nat} {I : MemI} (h1 : a < 4 ∨ 9 ≤ a) : oneC w h c I a i = I a i := by
  have e4 : ¬ a = 4 := by omega
  have e5 : ¬ a = 5 := by omega
  have e6 : ¬ a = 6 := by omega
  have e7 : ¬ a = 7 := by omega
  have e8 : ¬ a = 8 := by omega
  simp [oneC, uI, srI, e4, e5, e6, e7, e8]
theorem GD_one {w h last m : Nat} {I0 I : MemI} (hm : m < 16) (hg : GD w h last m I0 I) : GD w h last (m + 1) I0 (oneC w h m I) := by
  obtain ⟨h1, h2, h3, h4, h5, h6⟩ := hg
  refine ⟨by rw [oneC_o (Or.inl (by decide))]; exact h1, by rw [oneC_o (Or.inl (by decide))]; exact h2, by rw [oneC_o (Or.inl (by decide))]; exact h3, by rw [oneC_o (Or.inl (by decide))]; exact h4, fun c hc => ?_, fun a i ha => ?_⟩
  · by_cases he : c = m
    · subst he; exact oneC_tab hm
    · exact oneC_keep hm (by omega) he (h5 c (by omega))
  · rw [oneC_o (by omega)]; exact h6 a i ha
theorem rc_lt {w h y x : Nat} (hy : y < h) (hx : x < w) : y * w + x < w * h := by
  have h1 : (y + 1) * w ≤ h * w := Nat.mul_le_mul_right w hy
  rw [Nat.add_mul, Nat.one_mul] at h1
  rw [Nat.mul_comm w h]
  omega
theorem rc_mod {w y x : Nat} (hx : x < w) : (y * w + x) % w = x := by
  rw [Nat.mul_comm, Nat.mul_add_mod]; exact Nat.mod_eq_of_lt hx
theorem rc_div {w y x : Nat} (hx : x < w) : (y * w + x) / w = y := by
  rw [Nat.mul_comm, Nat.mul_add_div (by omega), Nat.div_eq_of_lt hx]; rfl
section FL2
variable {d : Nat} {I : MemI} {J : MemJ}
theorem sp_X0_shape {w h last : Nat} (hw1 : 1 ≤ w) (hw4 : w ≤ 4) (hh1 : 1 ≤ h) (hh4 : h ≤ 4) : CALL ΩC (d + 2) kX0_shape [.ref 3, .int (nI w), .int (nI h), .int (nI last)] I J (VQ (fun I' J' => Fld w h last I' ∧ (∀ a i, (a < 3 ∨ 9 ≤ a) → I' a i = I a i) ∧ J' = J)) := by
  have h16 := wh16 hw4 hh4
  have outer : ∀ n y (I2 : MemI), n + y = h → GD w h last (y * w) I I2 → WP ΩC (d + 2) kX0_shape 25 [(0, .ref 3), (1, .int (nI w)), (2, .int (nI h)), (3, .int (nI last)), (4, .int (nI y))] [] I2 J (VQ (fun I' J' => Fld w h last I' ∧ (∀ a i, (a < 3 ∨ 9 ≤ a) → I' a i = I a i) ∧ J' = J)) := by
    intro n
    induction n with
    | zero =>
      intro y I2 hy hg
      have hy' : y = h := (Nat.zero_add y).symm.trans hy
      subst hy'
      refine wp_iload (pc := 25) dX0_shape_25 rfl ?_
      refine wp_iload_n (pc := 27) (i := 2) dX0_shape_27 rfl rfl ?_
      first | (refine wp_icmp_geN (pc := 28) (tgt := 106) dX0_shape_28 (by decide) (by first | assumption | omega) (by first | assumption | omega) (fun c_28 => ?_) (fun c_28 => ?_)) | (refine wp_icmp_ge (pc := 28) (tgt := 106) dX0_shape_28 (by decide) (fun c_28 => ?_) (fun c_28 => ?_))
      · refine wp_return (pc := 106) dX0_shape_106 rfl ?_
        exact vq_i ⟨⟨⟨hw1, hw4, hh1, hh4⟩, hg.1, hg.2.1, hg.2.2.1, hg.2.2.2.1, fun c hc => hg.2.2.2.2.1 c (by rw [Nat.mul_comm]; exact hc)⟩, hg.2.2.2.2.2, rfl⟩
      · exact absurd (Nat.le_refl y) c_28
    | succ n ih =>
      intro y I2 hy hg
      have hyh : y < h := by omega
      have inner : ∀ n2 x (I3 : MemI), n2 + x = w → GD w h last (y * w + x) I I3 → WP ΩC (d + 2) kX0_shape 34 [(0, .ref 3), (1, .int (nI w)), (2, .int (nI h)), (3, .int (nI last)), (4, .int (nI y)), (5, .int (nI x))] [] I3 J (VQ (fun I' J' => Fld w h last I' ∧ (∀ a i, (a < 3 ∨ 9 ≤ a) → I' a i = I a i) ∧ J' = J)) := by
        intro n2
        induction n2 with
        | zero =>
          intro x I3 hx hg3
          have hx' : x = w := (Nat.zero_add x).symm.trans hx
          subst hx'
          refine wp_iload (pc := 34) dX0_shape_34 rfl ?_
          refine wp_iload_n (pc := 36) (i := 1) dX0_shape_36 rfl rfl ?_
          first | (refine wp_icmp_geN (pc := 37) (tgt := 100) dX0_shape_37 (by decide) (by first | assumption | omega) (by first | assumption | omega) (fun c_37 => ?_) (fun c_37 => ?_)) | (refine wp_icmp_ge (pc := 37) (tgt := 100) dX0_shape_37 (by decide) (fun c_37 => ?_) (fun c_37 => ?_))
          · first | (refine wp_iincN (pc := 100) (m := 1) dX0_shape_100 rfl rfl (by decide) ?_) | (refine wp_iinc (pc := 100) dX0_shape_100 rfl rfl (by decide) ?_)
            refine wp_goto (pc := 103) (tgt := 25) dX0_shape_103 (by decide) ?_
            refine wp_drop 5 ?_
            exact ih (y + 1) I3 (by omega) (by rw [Nat.add_mul, Nat.one_mul]; exact hg3)
          · exact absurd (Nat.le_refl x) c_37
        | succ n2 ih2 =>
          intro x I3 hx hg3
          have hxw : x < w := by omega
          have hm : y * w + x < 16 := Nat.lt_of_lt_of_le (rc_lt hyh hxw) h16
          have hmod := rc_mod (y := y) hxw
          have hdiv := rc_div (y := y) hxw
          have hone := GD_one hm hg3
          have ex : ((x : Nat) : Int) = cxx w (y * w + x) := by rw [cxx, hmod]
          have eu : ((y : Nat) : Int) - 1 = cyy w (y * w + x) + ahd 0 := by rw [cyy, hdiv]; rfl
          have ed : ((y : Nat) : Int) + 1 = cyy w (y * w + x) + ahd 1 := by rw [cyy, hdiv]; rfl
          refine wp_iload (pc := 34) dX0_shape_34 rfl ?_
          refine wp_iload_n (pc := 36) (i := 1) dX0_shape_36 rfl rfl ?_
          first | (refine wp_icmp_geN (pc := 37) (tgt := 100) dX0_shape_37 (by decide) (by first | assumption | omega) (by first | assumption | omega) (fun c_37 => ?_) (fun c_37 => ?_)) | (refine wp_icmp_ge (pc := 37) (tgt := 100) dX0_shape_37 (by decide) (fun c_37 => ?_) (fun c_37 => ?_))
          · exact absurd c_37 (by omega)
          · refine wp_aload_n (pc := 40) (i := 0) dX0_shape_40 rfl rfl (by first | assumption | rfl) ?_
            refine wp_iload (pc := 41) dX0_shape_41 rfl ?_
            refine wp_iload_n (pc := 43) (i := 1) dX0_shape_43 rfl rfl ?_
            first | (refine wp_imulN (pc := 44) dX0_shape_44 ?_) | (refine wp_imul (pc := 44) dX0_shape_44 ?_)
            refine wp_iload (pc := 45) dX0_shape_45 rfl ?_
            first | (refine wp_iaddN (pc := 47) dX0_shape_47 ?_) | (refine wp_iadd (pc := 47) dX0_shape_47 ?_)
            refine wp_iload (pc := 48) dX0_shape_48 rfl ?_
            refine wp_iload (pc := 50) dX0_shape_50 rfl ?_
            refine wp_cVV3 (pc := 52) (ci := 0) dX0_shape_52 lm_X0_40 m_X0_surround (by first | assumption | rfl) (by first | assumption | rfl) (by decide) rfl (Nat.le_of_ble_eq_true rfl) (sp_X0_surround hg3.1 hg3.2.1 hw4 hh4 hm hmod hdiv) (fun I_52 J_52 h_52 => ?_)
            obtain ⟨rfl, rfl⟩ := h_52
            refine wp_aload_n (pc := 55) (i := 0) dX0_shape_55 rfl rfl (by first | assumption | rfl) ?_
            refine wp_iconst (pc := 56) (v := nI 0) dX0_shape_56 (by decide +kernel) ?_
            refine wp_iload (pc := 57) dX0_shape_57 rfl ?_
            refine wp_iload_n (pc := 59) (i := 1) dX0_shape_59 rfl rfl ?_
            first | (refine wp_imulN (pc := 60) dX0_shape_60 ?_) | (refine wp_imul (pc := 60) dX0_shape_60 ?_)
            first | (refine wp_iaddN (pc := 61) dX0_shape_61 ?_) | (refine wp_iadd (pc := 61) dX0_shape_61 ?_)
            rw [Nat.zero_add]
            refine wp_iload (pc := 62) dX0_shape_62 rfl ?_
            first | (refine wp_iaddN (pc := 64) dX0_shape_64 ?_) | (refine wp_iadd (pc := 64) dX0_shape_64 ?_)
            refine wp_iload (pc := 65) dX0_shape_65 rfl ?_
            refine wp_iload (pc := 67) dX0_shape_67 rfl ?_
            refine wp_iconst (pc := 69) (v := nI 1) dX0_shape_69 (by decide +kernel) ?_
            refine wp_isub (pc := 70) dX0_shape_70 ?_
            rw [show nI y - nI 1 = zI ((y : Int) - 1) by rw [zI_n, zI_n, zI_sub]; rfl]
            refine wp_cVV3 (pc := 71) (ci := 0) dX0_shape_71 lm_X0_44 m_X0_lookAhead (by first | assumption | rfl) (by first | assumption | rfl) (by decide) rfl (Nat.le_of_ble_eq_true rfl) (sp_X0_lookAhead (w := w) (h := h) (by simp [uI, srI, hg3.1]) (by simp [uI, srI, hg3.2.1]) hw4 hh4 (by omega) (by omega) (by omega)) (fun I_71 J_71 h_71 => ?_)
            obtain ⟨rfl, rfl⟩ := h_71
            refine wp_aload_n (pc := 74) (i := 0) dX0_shape_74 rfl rfl (by first | assumption | rfl) ?_
            refine wp_bipush (pc := 75) (v := nI 16) dX0_shape_75 (by decide +kernel) ?_
            refine wp_iload (pc := 77) dX0_shape_77 rfl ?_
            refine wp_iload_n (pc := 79) (i := 1) dX0_shape_79 rfl rfl ?_
            first | (refine wp_imulN (pc := 80) dX0_shape_80 ?_) | (refine wp_imul (pc := 80) dX0_shape_80 ?_)
            first | (refine wp_iaddN (pc := 81) dX0_shape_81 ?_) | (refine wp_iadd (pc := 81) dX0_shape_81 ?_)
            refine wp_iload (pc := 82) dX0_shape_82 rfl ?_
            first | (refine wp_iaddN (pc := 84) dX0_shape_84 ?_) | (refine wp_iadd (pc := 84) dX0_shape_84 ?_)
            rw [show 16 + y * w + x = 16 + (y * w + x) from Nat.add_assoc _ _ _]
            refine wp_iload (pc := 85) dX0_shape_85 rfl ?_
            refine wp_iload (pc := 87) dX0_shape_87 rfl ?_
            refine wp_iconst (pc := 89) (v := nI 1) dX0_shape_89 (by decide +kernel) ?_
            refine wp_iadd (pc := 90) dX0_shape_90 ?_
            rw [show nI y + nI 1 = zI ((y : Int) + 1) by rw [zI_n, zI_n, zI_add]; rfl]
            refine wp_cVV3 (pc := 91) (ci := 0) dX0_shape_91 lm_X0_44 m_X0_lookAhead (by first | assumption | rfl) (by first | assumption | rfl) (by decide) rfl (Nat.le_of_ble_eq_true rfl) (sp_X0_lookAhead (w := w) (h := h) (by simp [uI, srI, hg3.1]) (by simp [uI, srI, hg3.2.1]) hw4 hh4 (by omega) (by omega) (by omega)) (fun I_91 J_91 h_91 => ?_)
            obtain ⟨rfl, rfl⟩ := h_91
            first | (refine wp_iincN (pc := 94) (m := 1) dX0_shape_94 rfl rfl (by decide) ?_) | (refine wp_iinc (pc := 94) dX0_shape_94 rfl rfl (by decide) ?_)
            refine wp_goto (pc := 97) (tgt := 34) dX0_shape_97 (by decide) ?_
            rw [eu, ed, ex]
            exact ih2 (x + 1) _ (by omega) hone
      refine wp_iload (pc := 25) dX0_shape_25 rfl ?_
      refine wp_iload_n (pc := 27) (i := 2) dX0_shape_27 rfl rfl ?_
      first | (refine wp_icmp_geN (pc := 28) (tgt := 106) dX0_shape_28 (by decide) (by first | assumption | omega) (by first | assumption | omega) (fun c_28 => ?_) (fun c_28 => ?_)) | (refine wp_icmp_ge (pc := 28) (tgt := 106) dX0_shape_28 (by decide) (fun c_28 => ?_) (fun c_28 => ?_))
      · exact absurd c_28 (by omega)
      · refine wp_iconst (pc := 31) (v := nI 0) dX0_shape_31 (by decide +kernel) ?_
        refine wp_istore (pc := 32) dX0_shape_32 (by decide) ?_
        exact inner w 0 I2 rfl hg
  refine call_of_wp (by decide) (Nat.le_of_ble_eq_true rfl) ?_
  refine wp_aload_n (pc := 0) (i := 0) dX0_shape_0 rfl rfl (by first | assumption | rfl) ?_
  refine wp_iload_n (pc := 1) (i := 1) dX0_shape_1 rfl rfl ?_
  refine wp_putI (pc := 2) dX0_shape_2 lf_X0_27 (by first | assumption | rfl) (by first | assumption | rfl) rfl rfl ?_
  refine wp_aload_n (pc := 5) (i := 0) dX0_shape_5 rfl rfl (by first | assumption | rfl) ?_
  refine wp_iload_n (pc := 6) (i := 2) dX0_shape_6 rfl rfl ?_
  refine wp_putI (pc := 7) dX0_shape_7 lf_X0_31 (by first | assumption | rfl) (by first | assumption | rfl) rfl rfl ?_
  refine wp_aload_n (pc := 10) (i := 0) dX0_shape_10 rfl rfl (by first | assumption | rfl) ?_
  refine wp_iload_n (pc := 11) (i := 3) dX0_shape_11 rfl rfl ?_
  refine wp_putI (pc := 12) dX0_shape_12 lf_X0_34 (by first | assumption | rfl) (by first | assumption | rfl) rfl rfl ?_
  refine wp_aload_n (pc := 15) (i := 0) dX0_shape_15 rfl rfl (by first | assumption | rfl) ?_
  refine wp_iload_n (pc := 16) (i := 1) dX0_shape_16 rfl rfl ?_
  refine wp_iload_n (pc := 17) (i := 2) dX0_shape_17 rfl rfl ?_
  first | (refine wp_imulN (pc := 18) dX0_shape_18 ?_) | (refine wp_imul (pc := 18) dX0_shape_18 ?_)
  refine wp_putI (pc := 19) dX0_shape_19 lf_X0_37 (by first | assumption | rfl) (by first | assumption | rfl) rfl rfl ?_
  refine wp_iconst (pc := 22) (v := nI 0) dX0_shape_22 (by decide +kernel) ?_
  refine wp_istore (pc := 23) dX0_shape_23 (by decide) ?_
  refine outer h 0 _ rfl ⟨by simp [uI], by simp [uI], by simp [uI], by simp [uI], fun c hc => absurd hc (by omega), fun a i ha => ?_⟩
  have e3 : ¬ a = 3 := by omega
  simp [uI, e3]
theorem or_some {P : Nat → Bool} {q : Nat} (h : q < 16) : mset P ||| 2 ^ q = mset (fun t => P t || (some q == some t)) := or_ob (o := some q) (fun c hc => by cases hc; exact h)
theorem nbr_lt {w h c k q : Nat} (hq : nbr w h c k = some q) : q < w * h := cat_lt hq
/-- lines(cell, firstWay, full) -/
theorem sp_X0_lines {w h last c fw : Nat} {F : Nat → Bool} (hF : Fld w h last I) (hc : c < w * h) (hfw : fw < 2) : CALL ΩC (d + 1) kX0_lines [.ref 3, .int (nI c), .int (nI fw), .int (nI (mset F))] I J (PQ (.int (nI (mset (lin w h fw F c)))) I J) := by
  obtain ⟨⟨hw1, hw4, hh1, hh4⟩, -, -, -, -, hT⟩ := hF
  have h16 := wh16 hw4 hh4
  have inner : ∀ n i k (o : Option Nat) (P : Nat → Bool), n + i = 4 → 1 ≤ i → k < 8 → (∀ q, o = some q → q < w * h) →
      WP ΩC (d + 1) kX0_lines 89 [(0, .ref 3), (1, .int (nI c)), (2, .int (nI fw)), (3, .int (nI (mset F))), (4, .int (nI (mset (fun t => P t || ray w h F k n o t)))), (5, .int (nI k))] [] I J (PQ (.int (nI (mset (lin w h fw F c)))) I J) →
      WP ΩC (d + 1) kX0_lines 32 [(0, .ref 3), (1, .int (nI c)), (2, .int (nI fw)), (3, .int (nI (mset F))), (4, .int (nI (mset P))), (5, .int (nI k)), (6, .int (ocI o)), (7, .int (nI i))] [] I J (PQ (.int (nI (mset (lin w h fw F c)))) I J) := by
    intro n
    induction n with
    | zero =>
      intro i k o P hi hi1 hk ho hcont
      have hi4 : i = 4 := (Nat.zero_add i).symm.trans hi
      subst hi4
      have e : mset (fun t => P t || ray w h F k 0 o t) = mset P := mset_eq fun t _ => by simp [ray]
      rw [e] at hcont
      refine wp_iload (pc := 32) dX0_lines_32 rfl ?_
      refine wp_iconst (pc := 34) (v := nI 4) dX0_lines_34 (by decide +kernel) ?_
      first | (refine wp_icmp_geN (pc := 35) (tgt := 89) dX0_lines_35 (by decide) (by first | assumption | omega) (by first | assumption | omega) (fun c_35 => ?_) (fun c_35 => ?_)) | (refine wp_icmp_ge (pc := 35) (tgt := 89) dX0_lines_35 (by decide) (fun c_35 => ?_) (fun c_35 => ?_))
      · refine wp_drop 6 ?_
        exact hcont
      · exact absurd (show 4 ≤ 4 by omega) c_35
    | succ n ih =>
      intro i k o P hi hi1 hk ho hcont
      cases o with
      | none =>
        have e : mset (fun t => P t || ray w h F k (n + 1) none t) = mset P := mset_eq fun t _ => by simp [ray]
        rw [e] at hcont
        refine wp_iload (pc := 32) dX0_lines_32 rfl ?_
        refine wp_iconst (pc := 34) (v := nI 4) dX0_lines_34 (by decide +kernel) ?_
        first | (refine wp_icmp_geN (pc := 35) (tgt := 89) dX0_lines_35 (by decide) (by first | assumption | omega) (by first | assumption | omega) (fun c_35 => ?_) (fun c_35 => ?_)) | (refine wp_icmp_ge (pc := 35) (tgt := 89) dX0_lines_35 (by decide) (fun c_35 => ?_) (fun c_35 => ?_))
        · exact absurd c_35 (by omega)
        · refine wp_iload (pc := 38) dX0_lines_38 rfl ?_
          refine wp_iconst (pc := 40) (v := (-1)) dX0_lines_40 (by decide +kernel) ?_
          refine wp_icmp_eq (pc := 41) (tgt := 89) dX0_lines_41 (by decide) (fun c_41 => ?_) (fun c_41 => ?_)
          · refine wp_drop 6 ?_
            exact hcont
          · exact absurd rfl c_41
      | some q =>
        have hq := ho q rfl
        have hq16 : q < 16 := Nat.lt_of_lt_of_le hq h16
        have hm := mset_lt F
        have hbit := mset_bit' F hq16
        have hne : ¬ nI q = -1 := fun z => nI_pos (n := q) (by omega) (by rw [z]; decide)
        show WP ΩC (d + 1) kX0_lines 32 [(0, .ref 3), (1, .int (nI c)), (2, .int (nI fw)), (3, .int (nI (mset F))), (4, .int (nI (mset P))), (5, .int (nI k)), (6, .int (nI q)), (7, .int (nI i))] [] I J _
        refine wp_iload (pc := 32) dX0_lines_32 rfl ?_
        refine wp_iconst (pc := 34) (v := nI 4) dX0_lines_34 (by decide +kernel) ?_
        first | (refine wp_icmp_geN (pc := 35) (tgt := 89) dX0_lines_35 (by decide) (by first | assumption | omega) (by first | assumption | omega) (fun c_35 => ?_) (fun c_35 => ?_)) | (refine wp_icmp_ge (pc := 35) (tgt := 89) dX0_lines_35 (by decide) (fun c_35 => ?_) (fun c_35 => ?_))
        · exact absurd c_35 (by omega)
        · refine wp_iload (pc := 38) dX0_lines_38 rfl ?_
          refine wp_iconst (pc := 40) (v := (-1)) dX0_lines_40 (by decide +kernel) ?_
          refine wp_icmp_eq (pc := 41) (tgt := 89) dX0_lines_41 (by decide) (fun c_41 => ?_) (fun c_41 => ?_)
          · exact absurd c_41 hne
          · refine wp_iload (pc := 44) dX0_lines_44 rfl ?_
            refine wp_iconst (pc := 46) (v := nI 1) dX0_lines_46 (by decide +kernel) ?_
            refine wp_iload (pc := 47) dX0_lines_47 rfl ?_
            first | (refine wp_ishl1 (pc := 49) dX0_lines_49 (by first | assumption | omega) ?_) | (refine wp_ishlN (pc := 49) dX0_lines_49 (by first | assumption | omega) (by first | assumption | omega) ?_) | (refine wp_ishl (pc := 49) dX0_lines_49 ?_)
            first | (refine wp_iorN (pc := 50) dX0_lines_50 ?_) | (refine wp_ior (pc := 50) dX0_lines_50 ?_)
            rw [or_some hq16]
            refine wp_istore (pc := 51) dX0_lines_51 (by decide) ?_
            refine wp_iload_n (pc := 53) (i := 3) dX0_lines_53 rfl rfl ?_
            refine wp_iload (pc := 54) dX0_lines_54 rfl ?_
            refine wp_cSP2 (pc := 56) dX0_lines_56 lm_X0_74 m_X5_has (Nat.le_of_ble_eq_true rfl) (sp_X5_has (by first | assumption | omega) (by first | assumption | omega)) ?_
            rw [hbit]
            refine wp_if_eqB (pc := 59) (tgt := 66) dX0_lines_59 (by decide) (fun c_59 => ?_) (fun c_59 => ?_)
            · refine wp_aload_n (pc := 66) (i := 0) dX0_lines_66 rfl rfl (by first | assumption | rfl) ?_
              refine wp_getR (pc := 67) dX0_lines_67 lf_X0_11 (by first | assumption | rfl) (by first | assumption | rfl) rfl (by first | assumption | rfl) (by first | assumption | rfl) ?_
              refine wp_iload (pc := 70) dX0_lines_70 rfl ?_
              refine wp_bipush (pc := 72) (v := nI 16) dX0_lines_72 (by decide +kernel) ?_
              first | (refine wp_imulN (pc := 74) dX0_lines_74 ?_) | (refine wp_imul (pc := 74) dX0_lines_74 ?_)
              refine wp_iload (pc := 75) dX0_lines_75 rfl ?_
              first | (refine wp_iaddN (pc := 77) dX0_lines_77 ?_) | (refine wp_iadd (pc := 77) dX0_lines_77 ?_)
              refine wp_cSP2 (pc := 78) dX0_lines_78 lm_X0_51 m_X5_at (Nat.le_of_ble_eq_true rfl) (sp_X5_at (by first | assumption | rfl) (by first | assumption | rfl) (by first | assumption | omega) (by decide)) ?_
              rw [(hT q hq).1 k hk]
              refine wp_istore (pc := 81) dX0_lines_81 (by decide) ?_
              first | (refine wp_iincN (pc := 83) (m := 1) dX0_lines_83 rfl rfl (by decide) ?_) | (refine wp_iinc (pc := 83) dX0_lines_83 rfl rfl (by decide) ?_)
              refine wp_goto (pc := 86) (tgt := 32) dX0_lines_86 (by decide) ?_
              first
                | (have gq : F q = true := c_59); exact ih (i + 1) k none (fun t => P t || (some q == some t)) (by omega) (by omega) hk (fun _ z => by cases z) (by
                    have e : mset (fun t => (P t || (some q == some t)) || ray w h F k n none t) = mset (fun t => P t || ray w h F k (n + 1) (some q) t) := mset_eq fun t _ => by simp [ray, c_59, Bool.or_assoc]
                    rw [e]; exact hcont)
                | (have gq : F q = false := c_59); exact ih (i + 1) k (nbr w h q k) (fun t => P t || (some q == some t)) (by omega) (by omega) hk (fun _ z => nbr_lt z) (by
                    have e : mset (fun t => (P t || (some q == some t)) || ray w h F k n (nbr w h q k) t) = mset (fun t => P t || ray w h F k (n + 1) (some q) t) := mset_eq fun t _ => by simp [ray, c_59, Bool.or_assoc]
                    rw [e]; exact hcont)
            · refine wp_iconst (pc := 62) (v := (-1)) dX0_lines_62 (by decide +kernel) ?_
              refine wp_goto (pc := 63) (tgt := 81) dX0_lines_63 (by decide) ?_
              refine wp_istore (pc := 81) dX0_lines_81 (by decide) ?_
              first | (refine wp_iincN (pc := 83) (m := 1) dX0_lines_83 rfl rfl (by decide) ?_) | (refine wp_iinc (pc := 83) dX0_lines_83 rfl rfl (by decide) ?_)
              refine wp_goto (pc := 86) (tgt := 32) dX0_lines_86 (by decide) ?_
              first
                | (have gq : F q = true := c_59); exact ih (i + 1) k none (fun t => P t || (some q == some t)) (by omega) (by omega) hk (fun _ z => by cases z) (by
                    have e : mset (fun t => (P t || (some q == some t)) || ray w h F k n none t) = mset (fun t => P t || ray w h F k (n + 1) (some q) t) := mset_eq fun t _ => by simp [ray, c_59, Bool.or_assoc]
                    rw [e]; exact hcont)
                | (have gq : F q = false := c_59); exact ih (i + 1) k (nbr w h q k) (fun t => P t || (some q == some t)) (by omega) (by omega) hk (fun _ z => nbr_lt z) (by
                    have e : mset (fun t => (P t || (some q == some t)) || ray w h F k n (nbr w h q k) t) = mset (fun t => P t || ray w h F k (n + 1) (some q) t) := mset_eq fun t _ => by simp [ray, c_59, Bool.or_assoc]
                    rw [e]; exact hcont)
  have outer : ∀ n j, n + j = 4 → WP ΩC (d + 1) kX0_lines 6 [(0, .ref 3), (1, .int (nI c)), (2, .int (nI fw)), (3, .int (nI (mset F))), (4, .int (nI (mset (fun t => anK (fun j => ray w h F (fw + 2 * j) 3 (nbr w h c (fw + 2 * j)) t) j)))), (5, .int (nI (fw + 2 * j)))] [] I J (PQ (.int (nI (mset (lin w h fw F c)))) I J) := by
    intro n
    induction n with
    | zero =>
      intro j hj
      have hj4 : j = 4 := (Nat.zero_add j).symm.trans hj
      subst hj4
      refine wp_iload (pc := 6) dX0_lines_6 rfl ?_
      refine wp_bipush (pc := 8) (v := nI 8) dX0_lines_8 (by decide +kernel) ?_
      first | (refine wp_icmp_geN (pc := 10) (tgt := 95) dX0_lines_10 (by decide) (by first | assumption | omega) (by first | assumption | omega) (fun c_10 => ?_) (fun c_10 => ?_)) | (refine wp_icmp_ge (pc := 10) (tgt := 95) dX0_lines_10 (by decide) (fun c_10 => ?_) (fun c_10 => ?_))
      · refine wp_iload (pc := 95) dX0_lines_95 rfl ?_
        refine wp_ireturn (pc := 97) dX0_lines_97 rfl ?_
        exact pq_i rfl
      · exact absurd (show 8 ≤ fw + 2 * 4 by omega) c_10
    | succ n ih =>
      intro j hj
      have hk : fw + 2 * j < 8 := by omega
      refine wp_iload (pc := 6) dX0_lines_6 rfl ?_
      refine wp_bipush (pc := 8) (v := nI 8) dX0_lines_8 (by decide +kernel) ?_
      first | (refine wp_icmp_geN (pc := 10) (tgt := 95) dX0_lines_10 (by decide) (by first | assumption | omega) (by first | assumption | omega) (fun c_10 => ?_) (fun c_10 => ?_)) | (refine wp_icmp_ge (pc := 10) (tgt := 95) dX0_lines_10 (by decide) (fun c_10 => ?_) (fun c_10 => ?_))
      · exact absurd c_10 (by omega)
      · refine wp_aload_n (pc := 13) (i := 0) dX0_lines_13 rfl rfl (by first | assumption | rfl) ?_
        refine wp_getR (pc := 14) dX0_lines_14 lf_X0_11 (by first | assumption | rfl) (by first | assumption | rfl) rfl (by first | assumption | rfl) (by first | assumption | rfl) ?_
        refine wp_iload (pc := 17) dX0_lines_17 rfl ?_
        refine wp_bipush (pc := 19) (v := nI 16) dX0_lines_19 (by decide +kernel) ?_
        first | (refine wp_imulN (pc := 21) dX0_lines_21 ?_) | (refine wp_imul (pc := 21) dX0_lines_21 ?_)
        refine wp_iload_n (pc := 22) (i := 1) dX0_lines_22 rfl rfl ?_
        first | (refine wp_iaddN (pc := 23) dX0_lines_23 ?_) | (refine wp_iadd (pc := 23) dX0_lines_23 ?_)
        refine wp_cSP2 (pc := 24) dX0_lines_24 lm_X0_51 m_X5_at (Nat.le_of_ble_eq_true rfl) (sp_X5_at (by first | assumption | rfl) (by first | assumption | rfl) (by first | assumption | omega) (by decide)) ?_
        rw [(hT c hc).1 _ hk]
        refine wp_istore (pc := 27) dX0_lines_27 (by decide) ?_
        refine wp_iconst (pc := 29) (v := nI 1) dX0_lines_29 (by decide +kernel) ?_
        refine wp_istore (pc := 30) dX0_lines_30 (by decide) ?_
        refine inner 3 1 (fw + 2 * j) (nbr w h c (fw + 2 * j)) _ rfl (by omega) hk (fun _ z => nbr_lt z) ?_
        have h := ih (j + 1) (by omega)
        rw [show fw + 2 * (j + 1) = fw + 2 * j + 2 by omega] at h
        refine wp_iincN (pc := 89) (m := 2) dX0_lines_89 rfl rfl (by decide) ?_
        refine wp_goto (pc := 92) (tgt := 6) dX0_lines_92 (by decide) ?_
        exact h
  refine call_of_wp (by decide) (Nat.le_of_ble_eq_true rfl) ?_
  refine wp_iconst (pc := 0) (v := nI 0) dX0_lines_0 (by decide +kernel) ?_
  refine wp_istore (pc := 1) dX0_lines_1 (by decide) ?_
  refine wp_iload_n (pc := 3) (i := 2) dX0_lines_3 rfl rfl ?_
  refine wp_istore (pc := 4) dX0_lines_4 (by decide) ?_
  have h := outer 4 0 rfl
  have e0 : ∀ f : Nat → Nat → Bool, mset (fun t => anK (f t) 0) = 0 := fun f => mset_none
  rw [e0] at h
  exact h
theorem sp_X0_all {w h last : Nat} (hF : Fld w h last I) : CALL ΩC d kX0_all [.ref 3] I J (PQ (.int (nI (mset (fun i => decide (i < w * h))))) I J) := by
  obtain ⟨⟨hw1, hw4, hh1, hh4⟩, -, -, -, h8, hT⟩ := hF
  have h16 := wh16 hw4 hh4
  have hp := Nat.two_pow_pos (w * h)
  have e : 2 ^ (w * h) - 1 = mset (fun i => decide (i < w * h)) := by
    refine of_bits ?_ (fun i _ => ?_)
    · have := Nat.pow_le_pow_right (show 0 < 2 by omega) h16
      omega
    · rw [Nat.testBit_two_pow_sub_one]
  refine call_of_wp (by decide) (Nat.le_of_ble_eq_true rfl) ?_
  refine wp_iconst (pc := 0) (v := nI 1) dX0_all_0 (by decide +kernel) ?_
  refine wp_aload_n (pc := 1) (i := 0) dX0_all_1 rfl rfl (by first | assumption | rfl) ?_
  refine wp_getI (pc := 2) dX0_all_2 lf_X0_37 (by first | assumption | rfl) (by first | assumption | rfl) rfl ?_
  rw [h8]
  first | (refine wp_ishl1 (pc := 5) dX0_all_5 (by first | assumption | omega) ?_) | (refine wp_ishlN (pc := 5) dX0_all_5 (by first | assumption | omega) (by first | assumption | omega) ?_) | (refine wp_ishl (pc := 5) dX0_all_5 ?_)
  refine wp_iconst (pc := 6) (v := nI 1) dX0_all_6 (by decide +kernel) ?_
  first | (refine wp_isubN (pc := 7) dX0_all_7 (by first | assumption | omega) ?_) | (refine wp_isub (pc := 7) dX0_all_7 ?_)
  refine wp_ireturn (pc := 8) dX0_all_8 rfl ?_
  exact pq_i (congrArg nI e)
theorem sp_X0_aimed {w h last s c : Nat} {F : Nat → Bool} (hF : Fld w h last I) (hs : s < 12) (hc : c < w * h) : CALL ΩC (d + 2) kX0_aimed [.ref 3, .int (nI s), .int (nI c), .int (nI (mset F))] I J (PQ (.int (nI (mset (aimP w h s F c)))) I J) := by
  have hT := hF.2.2.2.2.2 c hc
  have h16 : c < 16 := Nat.lt_of_lt_of_le hc (wh16 hF.1.2.1 hF.1.2.2.2)
  refine call_of_wp (by decide) (Nat.le_of_ble_eq_true rfl) ?_
  match s, hs with
  | 0, _ =>
    refine wp_iload_n (pc := 0) (i := 1) dX0_aimed_0 rfl rfl ?_
    refine wp_cSP1 (pc := 1) dX0_aimed_1 lm_X0_47 m_X5_kindOf (Nat.le_of_ble_eq_true rfl) (sp_X5_kindOf (by first | assumption | omega)) ?_
    refine wp_tableOut (pc := 4) (x := -1) (tgt := 91) dX0_aimed_4 (by decide) (by decide) ?_
    refine wp_iconst (pc := 91) (v := nI 0) dX0_aimed_91 (by decide +kernel) ?_
    refine wp_ireturn (pc := 92) dX0_aimed_92 rfl ?_
    exact pq_i (congrArg nI (mset_zero.mpr (fun _ _ => rfl)).symm)
  | 1, _ =>
    refine wp_iload_n (pc := 0) (i := 1) dX0_aimed_0 rfl rfl ?_
    refine wp_cSP1 (pc := 1) dX0_aimed_1 lm_X0_47 m_X5_kindOf (Nat.le_of_ble_eq_true rfl) (sp_X5_kindOf (by first | assumption | omega)) ?_
    refine wp_tableOut (pc := 4) (x := -1) (tgt := 91) dX0_aimed_4 (by decide) (by decide) ?_
    refine wp_iconst (pc := 91) (v := nI 0) dX0_aimed_91 (by decide +kernel) ?_
    refine wp_ireturn (pc := 92) dX0_aimed_92 rfl ?_
    exact pq_i (congrArg nI (mset_zero.mpr (fun _ _ => rfl)).symm)
  | 2, _ =>
    refine wp_iload_n (pc := 0) (i := 1) dX0_aimed_0 rfl rfl ?_
    refine wp_cSP1 (pc := 1) dX0_aimed_1 lm_X0_47 m_X5_kindOf (Nat.le_of_ble_eq_true rfl) (sp_X5_kindOf (by first | assumption | omega)) ?_
    refine wp_tableIn (pc := 4) (x := nI 0) (off := 36) (tgt := 40) dX0_aimed_4 (by decide) (by decide) (by decide) (by decide) ?_
    refine wp_aload_n (pc := 40) (i := 0) dX0_aimed_40 rfl rfl (by first | assumption | rfl) ?_
    refine wp_getR (pc := 41) dX0_aimed_41 lf_X0_15 (by first | assumption | rfl) (by first | assumption | rfl) rfl (by first | assumption | rfl) (by first | assumption | rfl) ?_
    refine wp_iload_n (pc := 44) (i := 2) dX0_aimed_44 rfl rfl ?_
    refine wp_cSP2 (pc := 45) dX0_aimed_45 lm_X0_51 m_X5_at (Nat.le_of_ble_eq_true rfl) (sp_X5_at (by first | assumption | rfl) (by first | assumption | rfl) (by first | assumption | omega) (by decide)) ?_
    rw [hT.2.1]
    refine wp_ireturn (pc := 48) dX0_aimed_48 rfl ?_
    exact pq_i rfl
  | 3, _ =>
    refine wp_iload_n (pc := 0) (i := 1) dX0_aimed_0 rfl rfl ?_
    refine wp_cSP1 (pc := 1) dX0_aimed_1 lm_X0_47 m_X5_kindOf (Nat.le_of_ble_eq_true rfl) (sp_X5_kindOf (by first | assumption | omega)) ?_
    refine wp_tableIn (pc := 4) (x := nI 1) (off := 45) (tgt := 49) dX0_aimed_4 (by decide) (by decide) (by decide) (by decide) ?_
    refine wp_aload_n (pc := 49) (i := 0) dX0_aimed_49 rfl rfl (by first | assumption | rfl) ?_
    refine wp_iload_n (pc := 50) (i := 2) dX0_aimed_50 rfl rfl ?_
    refine wp_iconst (pc := 51) (v := nI 0) dX0_aimed_51 (by decide +kernel) ?_
    refine wp_iload_n (pc := 52) (i := 3) dX0_aimed_52 rfl rfl ?_
    refine wp_cVP3 (pc := 53) (ci := 0) dX0_aimed_53 lm_X0_55 m_X0_lines (by first | assumption | rfl) (by first | assumption | rfl) (by decide) rfl (Nat.le_of_ble_eq_true rfl) (sp_X0_lines (by assumption) (by assumption) (by omega)) ?_
    refine wp_ireturn (pc := 56) dX0_aimed_56 rfl ?_
    exact pq_i rfl
  | 4, _ =>
    refine wp_iload_n (pc := 0) (i := 1) dX0_aimed_0 rfl rfl ?_
    refine wp_cSP1 (pc := 1) dX0_aimed_1 lm_X0_47 m_X5_kindOf (Nat.le_of_ble_eq_true rfl) (sp_X5_kindOf (by first | assumption | omega)) ?_
    refine wp_tableIn (pc := 4) (x := nI 2) (off := 53) (tgt := 57) dX0_aimed_4 (by decide) (by decide) (by decide) (by decide) ?_
    refine wp_aload_n (pc := 57) (i := 0) dX0_aimed_57 rfl rfl (by first | assumption | rfl) ?_
    refine wp_iload_n (pc := 58) (i := 2) dX0_aimed_58 rfl rfl ?_
    refine wp_iconst (pc := 59) (v := nI 1) dX0_aimed_59 (by decide +kernel) ?_
    refine wp_iload_n (pc := 60) (i := 3) dX0_aimed_60 rfl rfl ?_
    refine wp_cVP3 (pc := 61) (ci := 0) dX0_aimed_61 lm_X0_55 m_X0_lines (by first | assumption | rfl) (by first | assumption | rfl) (by decide) rfl (Nat.le_of_ble_eq_true rfl) (sp_X0_lines (by assumption) (by assumption) (by omega)) ?_
    refine wp_ireturn (pc := 64) dX0_aimed_64 rfl ?_
    exact pq_i rfl
  | 5, _ =>
    refine wp_iload_n (pc := 0) (i := 1) dX0_aimed_0 rfl rfl ?_
    refine wp_cSP1 (pc := 1) dX0_aimed_1 lm_X0_47 m_X5_kindOf (Nat.le_of_ble_eq_true rfl) (sp_X5_kindOf (by first | assumption | omega)) ?_
    refine wp_tableIn (pc := 4) (x := nI 3) (off := 61) (tgt := 65) dX0_aimed_4 (by decide) (by decide) (by decide) (by decide) ?_
    refine wp_aload_n (pc := 65) (i := 0) dX0_aimed_65 rfl rfl (by first | assumption | rfl) ?_
    refine wp_getR (pc := 66) dX0_aimed_66 lf_X0_18 (by first | assumption | rfl) (by first | assumption | rfl) rfl (by first | assumption | rfl) (by first | assumption | rfl) ?_
    refine wp_iload_n (pc := 69) (i := 2) dX0_aimed_69 rfl rfl ?_
    refine wp_cSP2 (pc := 70) dX0_aimed_70 lm_X0_51 m_X5_at (Nat.le_of_ble_eq_true rfl) (sp_X5_at (by first | assumption | rfl) (by first | assumption | rfl) (by first | assumption | omega) (by decide)) ?_
    rw [hT.2.2.1]
    refine wp_ireturn (pc := 73) dX0_aimed_73 rfl ?_
    exact pq_i rfl
  | 6, _ =>
    refine wp_iload_n (pc := 0) (i := 1) dX0_aimed_0 rfl rfl ?_
    refine wp_cSP1 (pc := 1) dX0_aimed_1 lm_X0_47 m_X5_kindOf (Nat.le_of_ble_eq_true rfl) (sp_X5_kindOf (by first | assumption | omega)) ?_
    refine wp_tableIn (pc := 4) (x := nI 4) (off := 70) (tgt := 74) dX0_aimed_4 (by decide) (by decide) (by decide) (by decide) ?_
    refine wp_aload_n (pc := 74) (i := 0) dX0_aimed_74 rfl rfl (by first | assumption | rfl) ?_
    refine wp_getR (pc := 75) dX0_aimed_75 lf_X0_21 (by first | assumption | rfl) (by first | assumption | rfl) rfl (by first | assumption | rfl) (by first | assumption | rfl) ?_
    refine wp_iload_n (pc := 78) (i := 1) dX0_aimed_78 rfl rfl ?_
    refine wp_cSP1 (pc := 79) dX0_aimed_79 lm_X0_59 m_X5_sideOf (Nat.le_of_ble_eq_true rfl) (sp_X5_sideOf (by first | assumption | omega)) ?_
    rw [show sdI 6 = nI 0 from rfl]
    refine wp_bipush (pc := 82) (v := nI 16) dX0_aimed_82 (by decide +kernel) ?_
    first | (refine wp_imulN (pc := 84) dX0_aimed_84 ?_) | (refine wp_imul (pc := 84) dX0_aimed_84 ?_)
    refine wp_iload_n (pc := 85) (i := 2) dX0_aimed_85 rfl rfl ?_
    first | (refine wp_iaddN (pc := 86) dX0_aimed_86 ?_) | (refine wp_iadd (pc := 86) dX0_aimed_86 ?_)
    refine wp_cSP2 (pc := 87) dX0_aimed_87 lm_X0_51 m_X5_at (Nat.le_of_ble_eq_true rfl) (sp_X5_at (by first | assumption | rfl) (by first | assumption | rfl) (by first | assumption | omega) (by decide)) ?_
    rw [(hT.2.2.2 0 (by decide)).1]
    refine wp_ireturn (pc := 90) dX0_aimed_90 rfl ?_
    exact pq_i rfl
  | 7, _ =>
    refine wp_iload_n (pc := 0) (i := 1) dX0_aimed_0 rfl rfl ?_
    refine wp_cSP1 (pc := 1) dX0_aimed_1 lm_X0_47 m_X5_kindOf (Nat.le_of_ble_eq_true rfl) (sp_X5_kindOf (by first | assumption | omega)) ?_
    refine wp_tableIn (pc := 4) (x := nI 0) (off := 36) (tgt := 40) dX0_aimed_4 (by decide) (by decide) (by decide) (by decide) ?_
    refine wp_aload_n (pc := 40) (i := 0) dX0_aimed_40 rfl rfl (by first | assumption | rfl) ?_
    refine wp_getR (pc := 41) dX0_aimed_41 lf_X0_15 (by first | assumption | rfl) (by first | assumption | rfl) rfl (by first | assumption | rfl) (by first | assumption | rfl) ?_
    refine wp_iload_n (pc := 44) (i := 2) dX0_aimed_44 rfl rfl ?_
    refine wp_cSP2 (pc := 45) dX0_aimed_45 lm_X0_51 m_X5_at (Nat.le_of_ble_eq_true rfl) (sp_X5_at (by first | assumption | rfl) (by first | assumption | rfl) (by first | assumption | omega) (by decide)) ?_
    rw [hT.2.1]
    refine wp_ireturn (pc := 48) dX0_aimed_48 rfl ?_
    exact pq_i rfl
  | 8, _ =>
    refine wp_iload_n (pc := 0) (i := 1) dX0_aimed_0 rfl rfl ?_
    refine wp_cSP1 (pc := 1) dX0_aimed_1 lm_X0_47 m_X5_kindOf (Nat.le_of_ble_eq_true rfl) (sp_X5_kindOf (by first | assumption | omega)) ?_
    refine wp_tableIn (pc := 4) (x := nI 1) (off := 45) (tgt := 49) dX0_aimed_4 (by decide) (by decide) (by decide) (by decide) ?_
    refine wp_aload_n (pc := 49) (i := 0) dX0_aimed_49 rfl rfl (by first | assumption | rfl) ?_
    refine wp_iload_n (pc := 50) (i := 2) dX0_aimed_50 rfl rfl ?_
    refine wp_iconst (pc := 51) (v := nI 0) dX0_aimed_51 (by decide +kernel) ?_
    refine wp_iload_n (pc := 52) (i := 3) dX0_aimed_52 rfl rfl ?_
    refine wp_cVP3 (pc := 53) (ci := 0) dX0_aimed_53 lm_X0_55 m_X0_lines (by first | assumption | rfl) (by first | assumption | rfl) (by decide) rfl (Nat.le_of_ble_eq_true rfl) (sp_X0_lines (by assumption) (by assumption) (by omega)) ?_
    refine wp_ireturn (pc := 56) dX0_aimed_56 rfl ?_
    exact pq_i rfl
  | 9, _ =>
    refine wp_iload_n (pc := 0) (i := 1) dX0_aimed_0 rfl rfl ?_
    refine wp_cSP1 (pc := 1) dX0_aimed_1 lm_X0_47 m_X5_kindOf (Nat.le_of_ble_eq_true rfl) (sp_X5_kindOf (by first | assumption | omega)) ?_
    refine wp_tableIn (pc := 4) (x := nI 2) (off := 53) (tgt := 57) dX0_aimed_4 (by decide) (by decide) (by decide) (by decide) ?_
    refine wp_aload_n (pc := 57) (i := 0) dX0_aimed_57 rfl rfl (by first | assumption | rfl) ?_
    refine wp_iload_n (pc := 58) (i := 2) dX0_aimed_58 rfl rfl ?_
    refine wp_iconst (pc := 59) (v := nI 1) dX0_aimed_59 (by decide +kernel) ?_
    refine wp_iload_n (pc := 60) (i := 3) dX0_aimed_60 rfl rfl ?_
    refine wp_cVP3 (pc := 61) (ci := 0) dX0_aimed_61 lm_X0_55 m_X0_lines (by first | assumption | rfl) (by first | assumption | rfl) (by decide) rfl (Nat.le_of_ble_eq_true rfl) (sp_X0_lines (by assumption) (by assumption) (by omega)) ?_
    refine wp_ireturn (pc := 64) dX0_aimed_64 rfl ?_
    exact pq_i rfl
  | 10, _ =>
    refine wp_iload_n (pc := 0) (i := 1) dX0_aimed_0 rfl rfl ?_
    refine wp_cSP1 (pc := 1) dX0_aimed_1 lm_X0_47 m_X5_kindOf (Nat.le_of_ble_eq_true rfl) (sp_X5_kindOf (by first | assumption | omega)) ?_
    refine wp_tableIn (pc := 4) (x := nI 3) (off := 61) (tgt := 65) dX0_aimed_4 (by decide) (by decide) (by decide) (by decide) ?_
    refine wp_aload_n (pc := 65) (i := 0) dX0_aimed_65 rfl rfl (by first | assumption | rfl) ?_
    refine wp_getR (pc := 66) dX0_aimed_66 lf_X0_18 (by first | assumption | rfl) (by first | assumption | rfl) rfl (by first | assumption | rfl) (by first | assumption | rfl) ?_
    refine wp_iload_n (pc := 69) (i := 2) dX0_aimed_69 rfl rfl ?_
    refine wp_cSP2 (pc := 70) dX0_aimed_70 lm_X0_51 m_X5_at (Nat.le_of_ble_eq_true rfl) (sp_X5_at (by first | assumption | rfl) (by first | assumption | rfl) (by first | assumption | omega) (by decide)) ?_
    rw [hT.2.2.1]
    refine wp_ireturn (pc := 73) dX0_aimed_73 rfl ?_
    exact pq_i rfl
  | 11, _ =>
    refine wp_iload_n (pc := 0) (i := 1) dX0_aimed_0 rfl rfl ?_
    refine wp_cSP1 (pc := 1) dX0_aimed_1 lm_X0_47 m_X5_kindOf (Nat.le_of_ble_eq_true rfl) (sp_X5_kindOf (by first | assumption | omega)) ?_
    refine wp_tableIn (pc := 4) (x := nI 4) (off := 70) (tgt := 74) dX0_aimed_4 (by decide) (by decide) (by decide) (by decide) ?_
    refine wp_aload_n (pc := 74) (i := 0) dX0_aimed_74 rfl rfl (by first | assumption | rfl) ?_
    refine wp_getR (pc := 75) dX0_aimed_75 lf_X0_21 (by first | assumption | rfl) (by first | assumption | rfl) rfl (by first | assumption | rfl) (by first | assumption | rfl) ?_
    refine wp_iload_n (pc := 78) (i := 1) dX0_aimed_78 rfl rfl ?_
    refine wp_cSP1 (pc := 79) dX0_aimed_79 lm_X0_59 m_X5_sideOf (Nat.le_of_ble_eq_true rfl) (sp_X5_sideOf (by first | assumption | omega)) ?_
    rw [show sdI 11 = nI 1 from rfl]
    refine wp_bipush (pc := 82) (v := nI 16) dX0_aimed_82 (by decide +kernel) ?_
    first | (refine wp_imulN (pc := 84) dX0_aimed_84 ?_) | (refine wp_imul (pc := 84) dX0_aimed_84 ?_)
    refine wp_iload_n (pc := 85) (i := 2) dX0_aimed_85 rfl rfl ?_
    first | (refine wp_iaddN (pc := 86) dX0_aimed_86 ?_) | (refine wp_iadd (pc := 86) dX0_aimed_86 ?_)
    refine wp_cSP2 (pc := 87) dX0_aimed_87 lm_X0_51 m_X5_at (Nat.le_of_ble_eq_true rfl) (sp_X5_at (by first | assumption | rfl) (by first | assumption | rfl) (by first | assumption | omega) (by decide)) ?_
    rw [(hT.2.2.2 1 (by decide)).1]
    refine wp_ireturn (pc := 90) dX0_aimed_90 rfl ?_
    exact pq_i rfl
  | n + 12, hs => omega
theorem sp_X0_going {w h last s c : Nat} {A : Nat → Bool} (hF : Fld w h last I) (hs : s < 12) (hc : c < w * h) : CALL ΩC (d + 1) kX0_going [.ref 3, .int (nI s), .int (nI c), .int (nI (mset A))] I J (PQ (.int (nI (mset (gngP w h s A c)))) I J) := by
  have hT := hF.2.2.2.2.2 c hc
  have h16 : c < 16 := Nat.lt_of_lt_of_le hc (wh16 hF.1.2.1 hF.1.2.2.2)
  refine call_of_wp (by decide) (Nat.le_of_ble_eq_true rfl) ?_
  match s, hs with
  | 0, _ =>
    refine wp_iload_n (pc := 0) (i := 1) dX0_going_0 rfl rfl ?_
    refine wp_cSP1 (pc := 1) dX0_going_1 lm_X0_47 m_X5_kindOf (Nat.le_of_ble_eq_true rfl) (sp_X5_kindOf (by first | assumption | omega)) ?_
    refine wp_iconst (pc := 4) (v := nI 4) dX0_going_4 (by decide +kernel) ?_
    refine wp_icmp_ne (pc := 5) (tgt := 27) dX0_going_5 (by decide) (fun c_5 => ?_) (fun c_5 => ?_)
    · refine wp_iload_n (pc := 27) (i := 3) dX0_going_27 rfl rfl ?_
      refine wp_ireturn (pc := 28) dX0_going_28 rfl ?_
      exact pq_i (congrArg nI (mset_eq fun t _ => by rw [gngP, if_neg (by decide)]))
    · exact absurd c_5 (by decide)
  | 1, _ =>
    refine wp_iload_n (pc := 0) (i := 1) dX0_going_0 rfl rfl ?_
    refine wp_cSP1 (pc := 1) dX0_going_1 lm_X0_47 m_X5_kindOf (Nat.le_of_ble_eq_true rfl) (sp_X5_kindOf (by first | assumption | omega)) ?_
    refine wp_iconst (pc := 4) (v := nI 4) dX0_going_4 (by decide +kernel) ?_
    refine wp_icmp_ne (pc := 5) (tgt := 27) dX0_going_5 (by decide) (fun c_5 => ?_) (fun c_5 => ?_)
    · refine wp_iload_n (pc := 27) (i := 3) dX0_going_27 rfl rfl ?_
      refine wp_ireturn (pc := 28) dX0_going_28 rfl ?_
      exact pq_i (congrArg nI (mset_eq fun t _ => by rw [gngP, if_neg (by decide)]))
    · exact absurd c_5 (by decide)
  | 2, _ =>
    refine wp_iload_n (pc := 0) (i := 1) dX0_going_0 rfl rfl ?_
    refine wp_cSP1 (pc := 1) dX0_going_1 lm_X0_47 m_X5_kindOf (Nat.le_of_ble_eq_true rfl) (sp_X5_kindOf (by first | assumption | omega)) ?_
    refine wp_iconst (pc := 4) (v := nI 4) dX0_going_4 (by decide +kernel) ?_
    refine wp_icmp_ne (pc := 5) (tgt := 27) dX0_going_5 (by decide) (fun c_5 => ?_) (fun c_5 => ?_)
    · refine wp_iload_n (pc := 27) (i := 3) dX0_going_27 rfl rfl ?_
      refine wp_ireturn (pc := 28) dX0_going_28 rfl ?_
      exact pq_i (congrArg nI (mset_eq fun t _ => by rw [gngP, if_neg (by decide)]))
    · exact absurd c_5 (by decide)
  | 3, _ =>
    refine wp_iload_n (pc := 0) (i := 1) dX0_going_0 rfl rfl ?_
    refine wp_cSP1 (pc := 1) dX0_going_1 lm_X0_47 m_X5_kindOf (Nat.le_of_ble_eq_true rfl) (sp_X5_kindOf (by first | assumption | omega)) ?_
    refine wp_iconst (pc := 4) (v := nI 4) dX0_going_4 (by decide +kernel) ?_
    refine wp_icmp_ne (pc := 5) (tgt := 27) dX0_going_5 (by decide) (fun c_5 => ?_) (fun c_5 => ?_)
    · refine wp_iload_n (pc := 27) (i := 3) dX0_going_27 rfl rfl ?_
      refine wp_ireturn (pc := 28) dX0_going_28 rfl ?_
      exact pq_i (congrArg nI (mset_eq fun t _ => by rw [gngP, if_neg (by decide)]))
    · exact absurd c_5 (by decide)
  | 4, _ =>
    refine wp_iload_n (pc := 0) (i := 1) dX0_going_0 rfl rfl ?_
    refine wp_cSP1 (pc := 1) dX0_going_1 lm_X0_47 m_X5_kindOf (Nat.le_of_ble_eq_true rfl) (sp_X5_kindOf (by first | assumption | omega)) ?_
    refine wp_iconst (pc := 4) (v := nI 4) dX0_going_4 (by decide +kernel) ?_
    refine wp_icmp_ne (pc := 5) (tgt := 27) dX0_going_5 (by decide) (fun c_5 => ?_) (fun c_5 => ?_)
    · refine wp_iload_n (pc := 27) (i := 3) dX0_going_27 rfl rfl ?_
      refine wp_ireturn (pc := 28) dX0_going_28 rfl ?_
      exact pq_i (congrArg nI (mset_eq fun t _ => by rw [gngP, if_neg (by decide)]))
    · exact absurd c_5 (by decide)
  | 5, _ =>
    refine wp_iload_n (pc := 0) (i := 1) dX0_going_0 rfl rfl ?_
    refine wp_cSP1 (pc := 1) dX0_going_1 lm_X0_47 m_X5_kindOf (Nat.le_of_ble_eq_true rfl) (sp_X5_kindOf (by first | assumption | omega)) ?_
    refine wp_iconst (pc := 4) (v := nI 4) dX0_going_4 (by decide +kernel) ?_
    refine wp_icmp_ne (pc := 5) (tgt := 27) dX0_going_5 (by decide) (fun c_5 => ?_) (fun c_5 => ?_)
    · refine wp_iload_n (pc := 27) (i := 3) dX0_going_27 rfl rfl ?_
      refine wp_ireturn (pc := 28) dX0_going_28 rfl ?_
      exact pq_i (congrArg nI (mset_eq fun t _ => by rw [gngP, if_neg (by decide)]))
    · exact absurd c_5 (by decide)
  | 6, _ =>
    refine wp_iload_n (pc := 0) (i := 1) dX0_going_0 rfl rfl ?_
    refine wp_cSP1 (pc := 1) dX0_going_1 lm_X0_47 m_X5_kindOf (Nat.le_of_ble_eq_true rfl) (sp_X5_kindOf (by first | assumption | omega)) ?_
    rw [show kdI 6 = nI 4 from rfl]
    refine wp_iconst (pc := 4) (v := nI 4) dX0_going_4 (by decide +kernel) ?_
    first | (refine wp_icmp_neN (pc := 5) (tgt := 27) dX0_going_5 (by decide) (by first | assumption | omega) (by first | assumption | omega) (fun c_5 => ?_) (fun c_5 => ?_)) | (refine wp_icmp_ne (pc := 5) (tgt := 27) dX0_going_5 (by decide) (fun c_5 => ?_) (fun c_5 => ?_))
    · exact absurd rfl c_5
    · refine wp_aload_n (pc := 8) (i := 0) dX0_going_8 rfl rfl (by first | assumption | rfl) ?_
      refine wp_getR (pc := 9) dX0_going_9 lf_X0_24 (by first | assumption | rfl) (by first | assumption | rfl) rfl (by first | assumption | rfl) (by first | assumption | rfl) ?_
      refine wp_iload_n (pc := 12) (i := 1) dX0_going_12 rfl rfl ?_
      refine wp_cSP1 (pc := 13) dX0_going_13 lm_X0_59 m_X5_sideOf (Nat.le_of_ble_eq_true rfl) (sp_X5_sideOf (by first | assumption | omega)) ?_
      rw [show sdI 6 = nI 0 from rfl]
      refine wp_bipush (pc := 16) (v := nI 16) dX0_going_16 (by decide +kernel) ?_
      first | (refine wp_imulN (pc := 18) dX0_going_18 ?_) | (refine wp_imul (pc := 18) dX0_going_18 ?_)
      refine wp_iload_n (pc := 19) (i := 2) dX0_going_19 rfl rfl ?_
      first | (refine wp_iaddN (pc := 20) dX0_going_20 ?_) | (refine wp_iadd (pc := 20) dX0_going_20 ?_)
      refine wp_cSP2 (pc := 21) dX0_going_21 lm_X0_51 m_X5_at (Nat.le_of_ble_eq_true rfl) (sp_X5_at (by first | assumption | rfl) (by first | assumption | rfl) (by first | assumption | omega) (by decide)) ?_
      rw [(hT.2.2.2 0 (by decide)).2]
      refine wp_goto (pc := 24) (tgt := 28) dX0_going_24 (by decide) ?_
      refine wp_ireturn (pc := 28) dX0_going_28 rfl ?_
      exact pq_i (congrArg nI (mset_eq fun t _ => by rw [gngP, if_pos (by decide)]; rfl))
  | 7, _ =>
    refine wp_iload_n (pc := 0) (i := 1) dX0_going_0 rfl rfl ?_
    refine wp_cSP1 (pc := 1) dX0_going_1 lm_X0_47 m_X5_kindOf (Nat.le_of_ble_eq_true rfl) (sp_X5_kindOf (by first | assumption | omega)) ?_
    refine wp_iconst (pc := 4) (v := nI 4) dX0_going_4 (by decide +kernel) ?_
    refine wp_icmp_ne (pc := 5) (tgt := 27) dX0_going_5 (by decide) (fun c_5 => ?_) (fun c_5 => ?_)
    · refine wp_iload_n (pc := 27) (i := 3) dX0_going_27 rfl rfl ?_
      refine wp_ireturn (pc := 28) dX0_going_28 rfl ?_
      exact pq_i (congrArg nI (mset_eq fun t _ => by rw [gngP, if_neg (by decide)]))
    · exact absurd c_5 (by decide)
  | 8, _ =>
    refine wp_iload_n (pc := 0) (i := 1) dX0_going_0 rfl rfl ?_
    refine wp_cSP1 (pc := 1) dX0_going_1 lm_X0_47 m_X5_kindOf (Nat.le_of_ble_eq_true rfl) (sp_X5_kindOf (by first | assumption | omega)) ?_
    refine wp_iconst (pc := 4) (v := nI 4) dX0_going_4 (by decide +kernel) ?_
    refine wp_icmp_ne (pc := 5) (tgt := 27) dX0_going_5 (by decide) (fun c_5 => ?_) (fun c_5 => ?_)
    · refine wp_iload_n (pc := 27) (i := 3) dX0_going_27 rfl rfl ?_
      refine wp_ireturn (pc := 28) dX0_going_28 rfl ?_
      exact pq_i (congrArg nI (mset_eq fun t _ => by rw [gngP, if_neg (by decide)]))
    · exact absurd c_5 (by decide)
  | 9, _ =>
    refine wp_iload_n (pc := 0) (i := 1) dX0_going_0 rfl rfl ?_
    refine wp_cSP1 (pc := 1) dX0_going_1 lm_X0_47 m_X5_kindOf (Nat.le_of_ble_eq_true rfl) (sp_X5_kindOf (by first | assumption | omega)) ?_
    refine wp_iconst (pc := 4) (v := nI 4) dX0_going_4 (by decide +kernel) ?_
    refine wp_icmp_ne (pc := 5) (tgt := 27) dX0_going_5 (by decide) (fun c_5 => ?_) (fun c_5 => ?_)
    · refine wp_iload_n (pc := 27) (i := 3) dX0_going_27 rfl rfl ?_
      refine wp_ireturn (pc := 28) dX0_going_28 rfl ?_
      exact pq_i (congrArg nI (mset_eq fun t _ => by rw [gngP, if_neg (by decide)]))
    · exact absurd c_5 (by decide)
  | 10, _ =>
    refine wp_iload_n (pc := 0) (i := 1) dX0_going_0 rfl rfl ?_
    refine wp_cSP1 (pc := 1) dX0_going_1 lm_X0_47 m_X5_kindOf (Nat.le_of_ble_eq_true rfl) (sp_X5_kindOf (by first | assumption | omega)) ?_
    refine wp_iconst (pc := 4) (v := nI 4) dX0_going_4 (by decide +kernel) ?_
    refine wp_icmp_ne (pc := 5) (tgt := 27) dX0_going_5 (by decide) (fun c_5 => ?_) (fun c_5 => ?_)
    · refine wp_iload_n (pc := 27) (i := 3) dX0_going_27 rfl rfl ?_
      refine wp_ireturn (pc := 28) dX0_going_28 rfl ?_
      exact pq_i (congrArg nI (mset_eq fun t _ => by rw [gngP, if_neg (by decide)]))
    · exact absurd c_5 (by decide)
  | 11, _ =>
    refine wp_iload_n (pc := 0) (i := 1) dX0_going_0 rfl rfl ?_
    refine wp_cSP1 (pc := 1) dX0_going_1 lm_X0_47 m_X5_kindOf (Nat.le_of_ble_eq_true rfl) (sp_X5_kindOf (by first | assumption | omega)) ?_
    rw [show kdI 11 = nI 4 from rfl]
    refine wp_iconst (pc := 4) (v := nI 4) dX0_going_4 (by decide +kernel) ?_
    first | (refine wp_icmp_neN (pc := 5) (tgt := 27) dX0_going_5 (by decide) (by first | assumption | omega) (by first | assumption | omega) (fun c_5 => ?_) (fun c_5 => ?_)) | (refine wp_icmp_ne (pc := 5) (tgt := 27) dX0_going_5 (by decide) (fun c_5 => ?_) (fun c_5 => ?_))
    · exact absurd rfl c_5
    · refine wp_aload_n (pc := 8) (i := 0) dX0_going_8 rfl rfl (by first | assumption | rfl) ?_
      refine wp_getR (pc := 9) dX0_going_9 lf_X0_24 (by first | assumption | rfl) (by first | assumption | rfl) rfl (by first | assumption | rfl) (by first | assumption | rfl) ?_
      refine wp_iload_n (pc := 12) (i := 1) dX0_going_12 rfl rfl ?_
      refine wp_cSP1 (pc := 13) dX0_going_13 lm_X0_59 m_X5_sideOf (Nat.le_of_ble_eq_true rfl) (sp_X5_sideOf (by first | assumption | omega)) ?_
      rw [show sdI 11 = nI 1 from rfl]
      refine wp_bipush (pc := 16) (v := nI 16) dX0_going_16 (by decide +kernel) ?_
      first | (refine wp_imulN (pc := 18) dX0_going_18 ?_) | (refine wp_imul (pc := 18) dX0_going_18 ?_)
      refine wp_iload_n (pc := 19) (i := 2) dX0_going_19 rfl rfl ?_
      first | (refine wp_iaddN (pc := 20) dX0_going_20 ?_) | (refine wp_iadd (pc := 20) dX0_going_20 ?_)
      refine wp_cSP2 (pc := 21) dX0_going_21 lm_X0_51 m_X5_at (Nat.le_of_ble_eq_true rfl) (sp_X5_at (by first | assumption | rfl) (by first | assumption | rfl) (by first | assumption | omega) (by decide)) ?_
      rw [(hT.2.2.2 1 (by decide)).2]
      refine wp_goto (pc := 24) (tgt := 28) dX0_going_24 (by decide) ?_
      refine wp_ireturn (pc := 28) dX0_going_28 rfl ?_
      exact pq_i (congrArg nI (mset_eq fun t _ => by rw [gngP, if_pos (by decide)]; rfl))
  | n + 12, hs => omega
end FL2
end
