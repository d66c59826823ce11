-- ===== PART A: goes FIRST, ahead of the names: the tables' words, and 'selects' of the private methods out of them =====
/-- a private method of a class that the tables say can be made, by its rows of tables_1 -/
def lw_okq (q : MethodName × Nat) : Prop := (q.1.cls ≠ "java/lang/invoke/MethodHandle" ∧ q.1.cls ≠ "java/lang/invoke/VarHandle") ∧ Cond.instantiable q.1.cls q.2 ∈ tables_1 ∧ Cond.privateMethod q.1 ∈ tables_1 ∧ Cond.instanceMethod q.1 ∈ tables_1
theorem lw_p0 : lw_okq (⟨"ToothStones$Table", "setNotLaid", "(I)V"⟩, 12) := ⟨⟨by decide +kernel, by decide +kernel⟩, List.mem_of_getElem? (i := 18) (by decide +kernel), List.mem_of_getElem? (i := 151) (by decide +kernel), List.mem_of_getElem? (i := 152) (by decide +kernel)⟩
theorem lw_p1 : lw_okq (⟨"ToothStones$Tape", "stepOn", "()V"⟩, 3) := ⟨⟨by decide +kernel, by decide +kernel⟩, List.mem_of_getElem? (i := 62) (by decide +kernel), List.mem_of_getElem? (i := 252) (by decide +kernel), List.mem_of_getElem? (i := 253) (by decide +kernel)⟩
theorem lw_p2 : lw_okq (⟨"ToothStones$Tape", "readStone", "(LToothStones$Table;)Z"⟩, 3) := ⟨⟨by decide +kernel, by decide +kernel⟩, List.mem_of_getElem? (i := 62) (by decide +kernel), List.mem_of_getElem? (i := 257) (by decide +kernel), List.mem_of_getElem? (i := 258) (by decide +kernel)⟩
theorem lw_p3 : lw_okq (⟨"ToothStones$Tape", "readDigit", "(II)I"⟩, 3) := ⟨⟨by decide +kernel, by decide +kernel⟩, List.mem_of_getElem? (i := 62) (by decide +kernel), List.mem_of_getElem? (i := 261) (by decide +kernel), List.mem_of_getElem? (i := 262) (by decide +kernel)⟩
theorem lw_p4 : lw_okq (⟨"ToothStones$Tape", "readKind", "()I"⟩, 3) := ⟨⟨by decide +kernel, by decide +kernel⟩, List.mem_of_getElem? (i := 62) (by decide +kernel), List.mem_of_getElem? (i := 266) (by decide +kernel), List.mem_of_getElem? (i := 267) (by decide +kernel)⟩
theorem lw_p5 : lw_okq (⟨"ToothStones$Tape", "readSign", "(C)Z"⟩, 3) := ⟨⟨by decide +kernel, by decide +kernel⟩, List.mem_of_getElem? (i := 62) (by decide +kernel), List.mem_of_getElem? (i := 270) (by decide +kernel), List.mem_of_getElem? (i := 271) (by decide +kernel)⟩
theorem lw_p6 : lw_okq (⟨"ToothStones$Tape", "readMark", "(LToothStones$Table;II)Z"⟩, 3) := ⟨⟨by decide +kernel, by decide +kernel⟩, List.mem_of_getElem? (i := 62) (by decide +kernel), List.mem_of_getElem? (i := 275) (by decide +kernel), List.mem_of_getElem? (i := 276) (by decide +kernel)⟩
theorem lw_p7 : lw_okq (⟨"ToothStones$Table", "lastTeeth", "()I"⟩, 12) := ⟨⟨by decide +kernel, by decide +kernel⟩, List.mem_of_getElem? (i := 18) (by decide +kernel), List.mem_of_getElem? (i := 329) (by decide +kernel), List.mem_of_getElem? (i := 330) (by decide +kernel)⟩
theorem lw_p8 : lw_okq (⟨"ToothStones$Table", "backWayAt", "(I)I"⟩, 12) := ⟨⟨by decide +kernel, by decide +kernel⟩, List.mem_of_getElem? (i := 18) (by decide +kernel), List.mem_of_getElem? (i := 352) (by decide +kernel), List.mem_of_getElem? (i := 353) (by decide +kernel)⟩
theorem lw_p9 : lw_okq (⟨"ToothStones$Table", "backWay", "(II)I"⟩, 12) := ⟨⟨by decide +kernel, by decide +kernel⟩, List.mem_of_getElem? (i := 18) (by decide +kernel), List.mem_of_getElem? (i := 356) (by decide +kernel), List.mem_of_getElem? (i := 357) (by decide +kernel)⟩
theorem lw_p10 : lw_okq (⟨"ToothStones$Table", "hasPawl", "(I)Z"⟩, 12) := ⟨⟨by decide +kernel, by decide +kernel⟩, List.mem_of_getElem? (i := 18) (by decide +kernel), List.mem_of_getElem? (i := 364) (by decide +kernel), List.mem_of_getElem? (i := 365) (by decide +kernel)⟩
theorem lw_p11 : lw_okq (⟨"ToothStones$Table", "turnWheel", "(III)V"⟩, 12) := ⟨⟨by decide +kernel, by decide +kernel⟩, List.mem_of_getElem? (i := 18) (by decide +kernel), List.mem_of_getElem? (i := 373) (by decide +kernel), List.mem_of_getElem? (i := 374) (by decide +kernel)⟩
theorem lw_p12 : lw_okq (⟨"ToothStones$Table", "scoreNow", "()I"⟩, 12) := ⟨⟨by decide +kernel, by decide +kernel⟩, List.mem_of_getElem? (i := 18) (by decide +kernel), List.mem_of_getElem? (i := 387) (by decide +kernel), List.mem_of_getElem? (i := 388) (by decide +kernel)⟩
theorem lw_p13 : lw_okq (⟨"ToothStones", "crankRefusal", "()I"⟩, 9) := ⟨⟨by decide +kernel, by decide +kernel⟩, List.mem_of_getElem? (i := 10) (by decide +kernel), List.mem_of_getElem? (i := 432) (by decide +kernel), List.mem_of_getElem? (i := 433) (by decide +kernel)⟩
theorem lw_p14 : lw_okq (⟨"ToothStones$Table", "firstUp", "(IIIII)I"⟩, 12) := ⟨⟨by decide +kernel, by decide +kernel⟩, List.mem_of_getElem? (i := 18) (by decide +kernel), List.mem_of_getElem? (i := 451) (by decide +kernel), List.mem_of_getElem? (i := 452) (by decide +kernel)⟩
theorem lw_p15 : lw_okq (⟨"ToothStones", "worthOf", "(II)I"⟩, 9) := ⟨⟨by decide +kernel, by decide +kernel⟩, List.mem_of_getElem? (i := 10) (by decide +kernel), List.mem_of_getElem? (i := 466) (by decide +kernel), List.mem_of_getElem? (i := 467) (by decide +kernel)⟩
def lw_privs_1 : List (MethodName × Nat) := [(⟨"ToothStones$Table", "setNotLaid", "(I)V"⟩, 12), (⟨"ToothStones$Tape", "stepOn", "()V"⟩, 3), (⟨"ToothStones$Tape", "readStone", "(LToothStones$Table;)Z"⟩, 3), (⟨"ToothStones$Tape", "readDigit", "(II)I"⟩, 3), (⟨"ToothStones$Tape", "readKind", "()I"⟩, 3), (⟨"ToothStones$Tape", "readSign", "(C)Z"⟩, 3), (⟨"ToothStones$Tape", "readMark", "(LToothStones$Table;II)Z"⟩, 3), (⟨"ToothStones$Table", "lastTeeth", "()I"⟩, 12), (⟨"ToothStones$Table", "backWayAt", "(I)I"⟩, 12), (⟨"ToothStones$Table", "backWay", "(II)I"⟩, 12), (⟨"ToothStones$Table", "hasPawl", "(I)Z"⟩, 12), (⟨"ToothStones$Table", "turnWheel", "(III)V"⟩, 12), (⟨"ToothStones$Table", "scoreNow", "()I"⟩, 12), (⟨"ToothStones", "crankRefusal", "()I"⟩, 9), (⟨"ToothStones$Table", "firstUp", "(IIIII)I"⟩, 12), (⟨"ToothStones", "worthOf", "(II)I"⟩, 9)]
theorem lw_r1 : ∀ q ∈ lw_privs_1, lw_okq q := List.forall_mem_cons.mpr ⟨lw_p0, List.forall_mem_cons.mpr ⟨lw_p1, List.forall_mem_cons.mpr ⟨lw_p2, List.forall_mem_cons.mpr ⟨lw_p3, List.forall_mem_cons.mpr ⟨lw_p4, List.forall_mem_cons.mpr ⟨lw_p5, List.forall_mem_cons.mpr ⟨lw_p6, List.forall_mem_cons.mpr ⟨lw_p7, List.forall_mem_cons.mpr ⟨lw_p8, List.forall_mem_cons.mpr ⟨lw_p9, List.forall_mem_cons.mpr ⟨lw_p10, List.forall_mem_cons.mpr ⟨lw_p11, List.forall_mem_cons.mpr ⟨lw_p12, List.forall_mem_cons.mpr ⟨lw_p13, List.forall_mem_cons.mpr ⟨lw_p14, List.forall_mem_cons.mpr ⟨lw_p15, fun _ h => absurd h List.not_mem_nil⟩⟩⟩⟩⟩⟩⟩⟩⟩⟩⟩⟩⟩⟩⟩⟩
theorem lw_p16 : lw_okq (⟨"ToothStones$Table", "countLays", "(I)I"⟩, 12) := ⟨⟨by decide +kernel, by decide +kernel⟩, List.mem_of_getElem? (i := 18) (by decide +kernel), List.mem_of_getElem? (i := 490) (by decide +kernel), List.mem_of_getElem? (i := 491) (by decide +kernel)⟩
theorem lw_p17 : lw_okq (⟨"ToothStones", "sheetAt", "(I)LToothStones$Sheet;"⟩, 9) := ⟨⟨by decide +kernel, by decide +kernel⟩, List.mem_of_getElem? (i := 10) (by decide +kernel), List.mem_of_getElem? (i := 523) (by decide +kernel), List.mem_of_getElem? (i := 524) (by decide +kernel)⟩
theorem lw_p18 : lw_okq (⟨"ToothStones", "firstThatMayNot", "(LToothStones$Sheet;II)I"⟩, 9) := ⟨⟨by decide +kernel, by decide +kernel⟩, List.mem_of_getElem? (i := 10) (by decide +kernel), List.mem_of_getElem? (i := 539) (by decide +kernel), List.mem_of_getElem? (i := 540) (by decide +kernel)⟩
theorem lw_p19 : lw_okq (⟨"ToothStones", "countOrders", "(IILToothStones$Sheet;I)I"⟩, 9) := ⟨⟨by decide +kernel, by decide +kernel⟩, List.mem_of_getElem? (i := 10) (by decide +kernel), List.mem_of_getElem? (i := 557) (by decide +kernel), List.mem_of_getElem? (i := 558) (by decide +kernel)⟩
theorem lw_p20 : lw_okq (⟨"ToothStones", "startOrder", "(I)V"⟩, 9) := ⟨⟨by decide +kernel, by decide +kernel⟩, List.mem_of_getElem? (i := 10) (by decide +kernel), List.mem_of_getElem? (i := 561) (by decide +kernel), List.mem_of_getElem? (i := 562) (by decide +kernel)⟩
theorem lw_p21 : lw_okq (⟨"ToothStones", "bringsMarks", "(IILToothStones$Sheet;I)Z"⟩, 9) := ⟨⟨by decide +kernel, by decide +kernel⟩, List.mem_of_getElem? (i := 10) (by decide +kernel), List.mem_of_getElem? (i := 569) (by decide +kernel), List.mem_of_getElem? (i := 570) (by decide +kernel)⟩
theorem lw_p22 : lw_okq (⟨"ToothStones", "nextOrder", "(I)Z"⟩, 9) := ⟨⟨by decide +kernel, by decide +kernel⟩, List.mem_of_getElem? (i := 10) (by decide +kernel), List.mem_of_getElem? (i := 575) (by decide +kernel), List.mem_of_getElem? (i := 576) (by decide +kernel)⟩
theorem lw_p23 : lw_okq (⟨"ToothStones", "swapInOrder", "(II)V"⟩, 9) := ⟨⟨by decide +kernel, by decide +kernel⟩, List.mem_of_getElem? (i := 10) (by decide +kernel), List.mem_of_getElem? (i := 579) (by decide +kernel), List.mem_of_getElem? (i := 580) (by decide +kernel)⟩
theorem lw_p24 : lw_okq (⟨"ToothStonesModel", "add", "(IIIII)V"⟩, 28) := ⟨⟨by decide +kernel, by decide +kernel⟩, List.mem_of_getElem? (i := 617) (by decide +kernel), List.mem_of_getElem? (i := 717) (by decide +kernel), List.mem_of_getElem? (i := 718) (by decide +kernel)⟩
theorem lw_p25 : lw_okq (⟨"ToothStonesModel", "isStone", "(I)Z"⟩, 28) := ⟨⟨by decide +kernel, by decide +kernel⟩, List.mem_of_getElem? (i := 617) (by decide +kernel), List.mem_of_getElem? (i := 725) (by decide +kernel), List.mem_of_getElem? (i := 726) (by decide +kernel)⟩
theorem lw_p26 : lw_okq (⟨"ToothStonesModel", "teeth", "(II)I"⟩, 28) := ⟨⟨by decide +kernel, by decide +kernel⟩, List.mem_of_getElem? (i := 617) (by decide +kernel), List.mem_of_getElem? (i := 729) (by decide +kernel), List.mem_of_getElem? (i := 730) (by decide +kernel)⟩
theorem lw_p27 : lw_okq (⟨"ToothStonesModel", "placeOf", "(I)I"⟩, 28) := ⟨⟨by decide +kernel, by decide +kernel⟩, List.mem_of_getElem? (i := 617) (by decide +kernel), List.mem_of_getElem? (i := 738) (by decide +kernel), List.mem_of_getElem? (i := 739) (by decide +kernel)⟩
theorem lw_p28 : lw_okq (⟨"ToothStonesModel", "readStones", "()Z"⟩, 28) := ⟨⟨by decide +kernel, by decide +kernel⟩, List.mem_of_getElem? (i := 617) (by decide +kernel), List.mem_of_getElem? (i := 759) (by decide +kernel), List.mem_of_getElem? (i := 760) (by decide +kernel)⟩
theorem lw_p29 : lw_okq (⟨"ToothStonesModel", "readStone", "(I)Z"⟩, 28) := ⟨⟨by decide +kernel, by decide +kernel⟩, List.mem_of_getElem? (i := 617) (by decide +kernel), List.mem_of_getElem? (i := 763) (by decide +kernel), List.mem_of_getElem? (i := 764) (by decide +kernel)⟩
theorem lw_p30 : lw_okq (⟨"ToothStonesModel", "readDigit", "(III)Z"⟩, 28) := ⟨⟨by decide +kernel, by decide +kernel⟩, List.mem_of_getElem? (i := 617) (by decide +kernel), List.mem_of_getElem? (i := 767) (by decide +kernel), List.mem_of_getElem? (i := 768) (by decide +kernel)⟩
theorem lw_p31 : lw_okq (⟨"ToothStonesModel", "nextByte", "()I"⟩, 28) := ⟨⟨by decide +kernel, by decide +kernel⟩, List.mem_of_getElem? (i := 617) (by decide +kernel), List.mem_of_getElem? (i := 771) (by decide +kernel), List.mem_of_getElem? (i := 772) (by decide +kernel)⟩
def lw_privs_2 : List (MethodName × Nat) := [(⟨"ToothStones$Table", "countLays", "(I)I"⟩, 12), (⟨"ToothStones", "sheetAt", "(I)LToothStones$Sheet;"⟩, 9), (⟨"ToothStones", "firstThatMayNot", "(LToothStones$Sheet;II)I"⟩, 9), (⟨"ToothStones", "countOrders", "(IILToothStones$Sheet;I)I"⟩, 9), (⟨"ToothStones", "startOrder", "(I)V"⟩, 9), (⟨"ToothStones", "bringsMarks", "(IILToothStones$Sheet;I)Z"⟩, 9), (⟨"ToothStones", "nextOrder", "(I)Z"⟩, 9), (⟨"ToothStones", "swapInOrder", "(II)V"⟩, 9), (⟨"ToothStonesModel", "add", "(IIIII)V"⟩, 28), (⟨"ToothStonesModel", "isStone", "(I)Z"⟩, 28), (⟨"ToothStonesModel", "teeth", "(II)I"⟩, 28), (⟨"ToothStonesModel", "placeOf", "(I)I"⟩, 28), (⟨"ToothStonesModel", "readStones", "()Z"⟩, 28), (⟨"ToothStonesModel", "readStone", "(I)Z"⟩, 28), (⟨"ToothStonesModel", "readDigit", "(III)Z"⟩, 28), (⟨"ToothStonesModel", "nextByte", "()I"⟩, 28)]
theorem lw_r2 : ∀ q ∈ lw_privs_2, lw_okq q := List.forall_mem_cons.mpr ⟨lw_p16, List.forall_mem_cons.mpr ⟨lw_p17, List.forall_mem_cons.mpr ⟨lw_p18, List.forall_mem_cons.mpr ⟨lw_p19, List.forall_mem_cons.mpr ⟨lw_p20, List.forall_mem_cons.mpr ⟨lw_p21, List.forall_mem_cons.mpr ⟨lw_p22, List.forall_mem_cons.mpr ⟨lw_p23, List.forall_mem_cons.mpr ⟨lw_p24, List.forall_mem_cons.mpr ⟨lw_p25, List.forall_mem_cons.mpr ⟨lw_p26, List.forall_mem_cons.mpr ⟨lw_p27, List.forall_mem_cons.mpr ⟨lw_p28, List.forall_mem_cons.mpr ⟨lw_p29, List.forall_mem_cons.mpr ⟨lw_p30, List.forall_mem_cons.mpr ⟨lw_p31, fun _ h => absurd h List.not_mem_nil⟩⟩⟩⟩⟩⟩⟩⟩⟩⟩⟩⟩⟩⟩⟩⟩
theorem lw_p32 : lw_okq (⟨"ToothStonesModel", "upMarks", "()I"⟩, 28) := ⟨⟨by decide +kernel, by decide +kernel⟩, List.mem_of_getElem? (i := 617) (by decide +kernel), List.mem_of_getElem? (i := 779) (by decide +kernel), List.mem_of_getElem? (i := 780) (by decide +kernel)⟩
theorem lw_p33 : lw_okq (⟨"ToothStonesModel", "mayLay", "(II)Z"⟩, 28) := ⟨⟨by decide +kernel, by decide +kernel⟩, List.mem_of_getElem? (i := 617) (by decide +kernel), List.mem_of_getElem? (i := 787) (by decide +kernel), List.mem_of_getElem? (i := 788) (by decide +kernel)⟩
theorem lw_p34 : lw_okq (⟨"ToothStonesModel", "layOne", "(II)I"⟩, 28) := ⟨⟨by decide +kernel, by decide +kernel⟩, List.mem_of_getElem? (i := 617) (by decide +kernel), List.mem_of_getElem? (i := 798) (by decide +kernel), List.mem_of_getElem? (i := 799) (by decide +kernel)⟩
theorem lw_p35 : lw_okq (⟨"ToothStonesModel", "put", "(II)I"⟩, 28) := ⟨⟨by decide +kernel, by decide +kernel⟩, List.mem_of_getElem? (i := 617) (by decide +kernel), List.mem_of_getElem? (i := 802) (by decide +kernel), List.mem_of_getElem? (i := 803) (by decide +kernel)⟩
theorem lw_p36 : lw_okq (⟨"ToothStonesModel", "wayForBack", "()I"⟩, 28) := ⟨⟨by decide +kernel, by decide +kernel⟩, List.mem_of_getElem? (i := 617) (by decide +kernel), List.mem_of_getElem? (i := 806) (by decide +kernel), List.mem_of_getElem? (i := 807) (by decide +kernel)⟩
theorem lw_p37 : lw_okq (⟨"ToothStonesModel", "findWays", "(I)V"⟩, 28) := ⟨⟨by decide +kernel, by decide +kernel⟩, List.mem_of_getElem? (i := 617) (by decide +kernel), List.mem_of_getElem? (i := 810) (by decide +kernel), List.mem_of_getElem? (i := 811) (by decide +kernel)⟩
theorem lw_p38 : lw_okq (⟨"ToothStonesModel", "isLocked", "()Z"⟩, 28) := ⟨⟨by decide +kernel, by decide +kernel⟩, List.mem_of_getElem? (i := 617) (by decide +kernel), List.mem_of_getElem? (i := 814) (by decide +kernel), List.mem_of_getElem? (i := 815) (by decide +kernel)⟩
theorem lw_p39 : lw_okq (⟨"ToothStonesModel", "isOdd", "()Z"⟩, 28) := ⟨⟨by decide +kernel, by decide +kernel⟩, List.mem_of_getElem? (i := 617) (by decide +kernel), List.mem_of_getElem? (i := 818) (by decide +kernel), List.mem_of_getElem? (i := 819) (by decide +kernel)⟩
theorem lw_p40 : lw_okq (⟨"ToothStonesModel", "lockedAt", "()I"⟩, 28) := ⟨⟨by decide +kernel, by decide +kernel⟩, List.mem_of_getElem? (i := 617) (by decide +kernel), List.mem_of_getElem? (i := 822) (by decide +kernel), List.mem_of_getElem? (i := 823) (by decide +kernel)⟩
theorem lw_p41 : lw_okq (⟨"ToothStonesModel", "isPawled", "(I)Z"⟩, 28) := ⟨⟨by decide +kernel, by decide +kernel⟩, List.mem_of_getElem? (i := 617) (by decide +kernel), List.mem_of_getElem? (i := 826) (by decide +kernel), List.mem_of_getElem? (i := 827) (by decide +kernel)⟩
theorem lw_p42 : lw_okq (⟨"ToothStonesModel", "turnAll", "(I)V"⟩, 28) := ⟨⟨by decide +kernel, by decide +kernel⟩, List.mem_of_getElem? (i := 617) (by decide +kernel), List.mem_of_getElem? (i := 830) (by decide +kernel), List.mem_of_getElem? (i := 831) (by decide +kernel)⟩
theorem lw_p43 : lw_okq (⟨"ToothStonesModel", "isForwardLocked", "()Z"⟩, 28) := ⟨⟨by decide +kernel, by decide +kernel⟩, List.mem_of_getElem? (i := 617) (by decide +kernel), List.mem_of_getElem? (i := 860) (by decide +kernel), List.mem_of_getElem? (i := 861) (by decide +kernel)⟩
theorem lw_p44 : lw_okq (⟨"ToothStonesModel", "roundOf", "()I"⟩, 28) := ⟨⟨by decide +kernel, by decide +kernel⟩, List.mem_of_getElem? (i := 617) (by decide +kernel), List.mem_of_getElem? (i := 864) (by decide +kernel), List.mem_of_getElem? (i := 865) (by decide +kernel)⟩
theorem lw_p45 : lw_okq (⟨"ToothStonesModel", "isUpBehind", "(I)Z"⟩, 28) := ⟨⟨by decide +kernel, by decide +kernel⟩, List.mem_of_getElem? (i := 617) (by decide +kernel), List.mem_of_getElem? (i := 875) (by decide +kernel), List.mem_of_getElem? (i := 876) (by decide +kernel)⟩
theorem lw_p46 : lw_okq (⟨"ToothStonesModel", "teethTo", "(IIII)I"⟩, 28) := ⟨⟨by decide +kernel, by decide +kernel⟩, List.mem_of_getElem? (i := 617) (by decide +kernel), List.mem_of_getElem? (i := 879) (by decide +kernel), List.mem_of_getElem? (i := 880) (by decide +kernel)⟩
theorem lw_p47 : lw_okq (⟨"ToothStonesModel", "keepIn", "([I)V"⟩, 28) := ⟨⟨by decide +kernel, by decide +kernel⟩, List.mem_of_getElem? (i := 617) (by decide +kernel), List.mem_of_getElem? (i := 892) (by decide +kernel), List.mem_of_getElem? (i := 893) (by decide +kernel)⟩
def lw_privs_3 : List (MethodName × Nat) := [(⟨"ToothStonesModel", "upMarks", "()I"⟩, 28), (⟨"ToothStonesModel", "mayLay", "(II)Z"⟩, 28), (⟨"ToothStonesModel", "layOne", "(II)I"⟩, 28), (⟨"ToothStonesModel", "put", "(II)I"⟩, 28), (⟨"ToothStonesModel", "wayForBack", "()I"⟩, 28), (⟨"ToothStonesModel", "findWays", "(I)V"⟩, 28), (⟨"ToothStonesModel", "isLocked", "()Z"⟩, 28), (⟨"ToothStonesModel", "isOdd", "()Z"⟩, 28), (⟨"ToothStonesModel", "lockedAt", "()I"⟩, 28), (⟨"ToothStonesModel", "isPawled", "(I)Z"⟩, 28), (⟨"ToothStonesModel", "turnAll", "(I)V"⟩, 28), (⟨"ToothStonesModel", "isForwardLocked", "()Z"⟩, 28), (⟨"ToothStonesModel", "roundOf", "()I"⟩, 28), (⟨"ToothStonesModel", "isUpBehind", "(I)Z"⟩, 28), (⟨"ToothStonesModel", "teethTo", "(IIII)I"⟩, 28), (⟨"ToothStonesModel", "keepIn", "([I)V"⟩, 28)]
theorem lw_r3 : ∀ q ∈ lw_privs_3, lw_okq q := List.forall_mem_cons.mpr ⟨lw_p32, List.forall_mem_cons.mpr ⟨lw_p33, List.forall_mem_cons.mpr ⟨lw_p34, List.forall_mem_cons.mpr ⟨lw_p35, List.forall_mem_cons.mpr ⟨lw_p36, List.forall_mem_cons.mpr ⟨lw_p37, List.forall_mem_cons.mpr ⟨lw_p38, List.forall_mem_cons.mpr ⟨lw_p39, List.forall_mem_cons.mpr ⟨lw_p40, List.forall_mem_cons.mpr ⟨lw_p41, List.forall_mem_cons.mpr ⟨lw_p42, List.forall_mem_cons.mpr ⟨lw_p43, List.forall_mem_cons.mpr ⟨lw_p44, List.forall_mem_cons.mpr ⟨lw_p45, List.forall_mem_cons.mpr ⟨lw_p46, List.forall_mem_cons.mpr ⟨lw_p47, fun _ h => absurd h List.not_mem_nil⟩⟩⟩⟩⟩⟩⟩⟩⟩⟩⟩⟩⟩⟩⟩⟩
theorem lw_p48 : lw_okq (⟨"ToothStonesModel", "greatestOf", "(I)I"⟩, 28) := ⟨⟨by decide +kernel, by decide +kernel⟩, List.mem_of_getElem? (i := 617) (by decide +kernel), List.mem_of_getElem? (i := 896) (by decide +kernel), List.mem_of_getElem? (i := 897) (by decide +kernel)⟩
theorem lw_p49 : lw_okq (⟨"ToothStonesModel", "bringBack", "([II)V"⟩, 28) := ⟨⟨by decide +kernel, by decide +kernel⟩, List.mem_of_getElem? (i := 617) (by decide +kernel), List.mem_of_getElem? (i := 900) (by decide +kernel), List.mem_of_getElem? (i := 901) (by decide +kernel)⟩
theorem lw_p50 : lw_okq (⟨"ToothStonesModel", "laysOf", "(II)I"⟩, 28) := ⟨⟨by decide +kernel, by decide +kernel⟩, List.mem_of_getElem? (i := 617) (by decide +kernel), List.mem_of_getElem? (i := 909) (by decide +kernel), List.mem_of_getElem? (i := 910) (by decide +kernel)⟩
theorem lw_p51 : lw_okq (⟨"ToothStonesModel", "lacksRow", "(IIII)I"⟩, 28) := ⟨⟨by decide +kernel, by decide +kernel⟩, List.mem_of_getElem? (i := 617) (by decide +kernel), List.mem_of_getElem? (i := 944) (by decide +kernel), List.mem_of_getElem? (i := 945) (by decide +kernel)⟩
theorem lw_p52 : lw_okq (⟨"ToothStonesModel", "countOrders", "(II)I"⟩, 28) := ⟨⟨by decide +kernel, by decide +kernel⟩, List.mem_of_getElem? (i := 617) (by decide +kernel), List.mem_of_getElem? (i := 956) (by decide +kernel), List.mem_of_getElem? (i := 957) (by decide +kernel)⟩
theorem lw_p53 : lw_okq (⟨"ToothStonesModel", "brings", "(II)Z"⟩, 28) := ⟨⟨by decide +kernel, by decide +kernel⟩, List.mem_of_getElem? (i := 617) (by decide +kernel), List.mem_of_getElem? (i := 960) (by decide +kernel), List.mem_of_getElem? (i := 961) (by decide +kernel)⟩
theorem lw_p54 : lw_okq (⟨"ToothStonesModel", "nextOrder", "()Z"⟩, 28) := ⟨⟨by decide +kernel, by decide +kernel⟩, List.mem_of_getElem? (i := 617) (by decide +kernel), List.mem_of_getElem? (i := 964) (by decide +kernel), List.mem_of_getElem? (i := 965) (by decide +kernel)⟩
def lw_privs_4 : List (MethodName × Nat) := [(⟨"ToothStonesModel", "greatestOf", "(I)I"⟩, 28), (⟨"ToothStonesModel", "bringBack", "([II)V"⟩, 28), (⟨"ToothStonesModel", "laysOf", "(II)I"⟩, 28), (⟨"ToothStonesModel", "lacksRow", "(IIII)I"⟩, 28), (⟨"ToothStonesModel", "countOrders", "(II)I"⟩, 28), (⟨"ToothStonesModel", "brings", "(II)Z"⟩, 28), (⟨"ToothStonesModel", "nextOrder", "()Z"⟩, 28)]
theorem lw_r4 : ∀ q ∈ lw_privs_4, lw_okq q := List.forall_mem_cons.mpr ⟨lw_p48, List.forall_mem_cons.mpr ⟨lw_p49, List.forall_mem_cons.mpr ⟨lw_p50, List.forall_mem_cons.mpr ⟨lw_p51, List.forall_mem_cons.mpr ⟨lw_p52, List.forall_mem_cons.mpr ⟨lw_p53, List.forall_mem_cons.mpr ⟨lw_p54, fun _ h => absurd h List.not_mem_nil⟩⟩⟩⟩⟩⟩⟩
def lw_privs : List (MethodName × Nat) := lw_privs_1 ++ (lw_privs_2 ++ (lw_privs_3 ++ (lw_privs_4)))
def lw_tbl : List Cond := k2_sels lw_privs ++ tables_1
theorem lw_privs_ok : ∀ q ∈ lw_privs, lw_okq q := by
  show ∀ q ∈ lw_privs_1 ++ (lw_privs_2 ++ (lw_privs_3 ++ (lw_privs_4))), lw_okq q
  exact List.forall_mem_append.mpr ⟨lw_r1, List.forall_mem_append.mpr ⟨lw_r2, List.forall_mem_append.mpr ⟨lw_r3, lw_r4⟩⟩⟩

def RX0 : String := "ToothStones$Sheet"
def TX0 : u_T := fun k => match k with
  | 0 => ("ToothStones$Sheet", "items", "[I", true)
  | 1 => ("ToothStones$Sheet", "isHeld", "Z", false)
  | 2 => ("ToothStones$Sheet", "laneHeld", "I", false)
  | _ => ("ToothStones$Sheet", "size", "I", false)
def tyX0 : Nat → FieldType := fun k => match k with
  | 0 => .array .int
  | 1 => .boolean
  | 2 => .int
  | _ => .int
abbrev wsX00 : List Cond := u_ws RX0 TX0 4
theorem nmX0 : ∀ a, a < 4 → ∀ b, b < 4 → a ≠ b → (TX0 a).2.1 ≠ (TX0 b).2.1 := by decide +kernel
theorem tyX0_ok : ∀ k, k < 4 → parseFieldDescriptor (TX0 k).2.2.1 = some (tyX0 k) := by decide +kernel
abbrev cX0_init : ByteArray := prog_2_method_1_code
def yX0_init : MethodName := ⟨RX0, "<init>", "()V"⟩
abbrev cX0_isNothing : ByteArray := prog_2_method_2_code
def yX0_isNothing : MethodName := ⟨RX0, "isNothing", "()Z"⟩
abbrev cX0_holdNew : ByteArray := prog_2_method_3_code
def yX0_holdNew : MethodName := ⟨RX0, "holdNew", "(II)V"⟩
abbrev cX0_holdNothing : ByteArray := prog_2_method_4_code
def yX0_holdNothing : MethodName := ⟨RX0, "holdNothing", "()I"⟩
abbrev cX0_refusalOf : ByteArray := prog_2_method_5_code
def yX0_refusalOf : MethodName := ⟨RX0, "refusalOf", "(III)I"⟩
abbrev cX0_itemAt : ByteArray := prog_2_method_6_code
def yX0_itemAt : MethodName := ⟨RX0, "itemAt", "(I)I"⟩
abbrev cX0_setItem : ByteArray := prog_2_method_7_code
def yX0_setItem : MethodName := ⟨RX0, "setItem", "(II)V"⟩
def RX1 : String := "ToothStones$Table"
def TX1 : u_T := fun k => match k with
  | 0 => ("ToothStones$Table", "stoneCount", "I", false)
  | 1 => ("ToothStones$Table", "kinds", "[I", true)
  | 2 => ("ToothStones$Table", "teeth", "[I", true)
  | 3 => ("ToothStones$Table", "marks", "[I", true)
  | 4 => ("ToothStones$Table", "hands", "[I", true)
  | 5 => ("ToothStones$Table", "places", "[I", true)
  | 6 => ("ToothStones$Table", "fronts", "[I", true)
  | 7 => ("ToothStones$Table", "trainLength", "I", false)
  | 8 => ("ToothStones$Table", "train", "[I", true)
  | 9 => ("ToothStones$Table", "isRing", "Z", false)
  | 10 => ("ToothStones$Table", "scores", "[I", true)
  | _ => ("ToothStones$Table", "draw", "I", false)
def tyX1 : Nat → FieldType := fun k => match k with
  | 0 => .int
  | 1 => .array .int
  | 2 => .array .int
  | 3 => .array .int
  | 4 => .array .int
  | 5 => .array .int
  | 6 => .array .int
  | 7 => .int
  | 8 => .array .int
  | 9 => .boolean
  | 10 => .array .int
  | _ => .int
abbrev wsX10 : List Cond := u_ws RX1 TX1 12
theorem nmX1 : ∀ a, a < 12 → ∀ b, b < 12 → a ≠ b → (TX1 a).2.1 ≠ (TX1 b).2.1 := by decide +kernel
theorem tyX1_ok : ∀ k, k < 12 → parseFieldDescriptor (TX1 k).2.2.1 = some (tyX1 k) := by decide +kernel
abbrev cX1_init : ByteArray := prog_3_method_1_code
def yX1_init : MethodName := ⟨RX1, "<init>", "()V"⟩
abbrev cX1_copyFrom : ByteArray := prog_3_method_2_code
def yX1_copyFrom : MethodName := ⟨RX1, "copyFrom", "(LToothStones$Table;)V"⟩
abbrev cX1_clear : ByteArray := prog_3_method_3_code
def yX1_clear : MethodName := ⟨RX1, "clear", "()V"⟩
abbrev cX1_isFull : ByteArray := prog_3_method_4_code
def yX1_isFull : MethodName := ⟨RX1, "isFull", "()Z"⟩
abbrev cX1_addStone : ByteArray := prog_3_method_5_code
def yX1_addStone : MethodName := ⟨RX1, "addStone", "(III)I"⟩
abbrev cX1_setNotLaid : ByteArray := prog_3_method_6_code
def yX1_setNotLaid : MethodName := ⟨RX1, "setNotLaid", "(I)V"⟩
abbrev cX1_stoneCount : ByteArray := prog_3_method_7_code
def yX1_stoneCount : MethodName := ⟨RX1, "stoneCount", "()I"⟩
abbrev cX1_hasStone : ByteArray := prog_3_method_8_code
def yX1_hasStone : MethodName := ⟨RX1, "hasStone", "(I)Z"⟩
abbrev cX1_hasSet : ByteArray := prog_3_method_9_code
def yX1_hasSet : MethodName := ⟨RX1, "hasSet", "(I)Z"⟩
abbrev cX1_kindOf : ByteArray := prog_3_method_10_code
def yX1_kindOf : MethodName := ⟨RX1, "kindOf", "(I)I"⟩
abbrev cX1_teethOf : ByteArray := prog_3_method_11_code
def yX1_teethOf : MethodName := ⟨RX1, "teethOf", "(II)I"⟩
abbrev cX1_markOf : ByteArray := prog_3_method_12_code
def yX1_markOf : MethodName := ⟨RX1, "markOf", "(II)I"⟩
abbrev cX1_setMark : ByteArray := prog_3_method_13_code
def yX1_setMark : MethodName := ⟨RX1, "setMark", "(III)V"⟩
abbrev cX1_handOf : ByteArray := prog_3_method_14_code
def yX1_handOf : MethodName := ⟨RX1, "handOf", "(I)I"⟩
abbrev cX1_setHand : ByteArray := prog_3_method_15_code
def yX1_setHand : MethodName := ⟨RX1, "setHand", "(II)V"⟩
abbrev cX1_handSize : ByteArray := prog_3_method_16_code
def yX1_handSize : MethodName := ⟨RX1, "handSize", "(I)I"⟩
abbrev cX1_scoreOf : ByteArray := prog_3_method_17_code
def yX1_scoreOf : MethodName := ⟨RX1, "scoreOf", "(I)I"⟩
abbrev cX1_placeOf : ByteArray := prog_3_method_18_code
def yX1_placeOf : MethodName := ⟨RX1, "placeOf", "(I)I"⟩
abbrev cX1_isLaid : ByteArray := prog_3_method_19_code
def yX1_isLaid : MethodName := ⟨RX1, "isLaid", "(I)Z"⟩
abbrev cX1_frontOf : ByteArray := prog_3_method_20_code
def yX1_frontOf : MethodName := ⟨RX1, "frontOf", "(I)I"⟩
abbrev cX1_backOf : ByteArray := prog_3_method_21_code
def yX1_backOf : MethodName := ⟨RX1, "backOf", "(I)I"⟩
abbrev cX1_trainLength : ByteArray := prog_3_method_22_code
def yX1_trainLength : MethodName := ⟨RX1, "trainLength", "()I"⟩
abbrev cX1_stoneInTrain : ByteArray := prog_3_method_23_code
def yX1_stoneInTrain : MethodName := ⟨RX1, "stoneInTrain", "(I)I"⟩
abbrev cX1_isRing : ByteArray := prog_3_method_24_code
def yX1_isRing : MethodName := ⟨RX1, "isRing", "()Z"⟩
abbrev cX1_setRing : ByteArray := prog_3_method_25_code
def yX1_setRing : MethodName := ⟨RX1, "setRing", "(Z)V"⟩
abbrev cX1_drawIs : ByteArray := prog_3_method_26_code
def yX1_drawIs : MethodName := ⟨RX1, "drawIs", "()I"⟩
abbrev cX1_setDraw : ByteArray := prog_3_method_27_code
def yX1_setDraw : MethodName := ⟨RX1, "setDraw", "(I)V"⟩
abbrev cX1_lastTeeth : ByteArray := prog_3_method_28_code
def yX1_lastTeeth : MethodName := ⟨RX1, "lastTeeth", "()I"⟩
abbrev cX1_areNear : ByteArray := prog_3_method_29_code
def yX1_areNear : MethodName := ⟨RX1, "areNear", "(II)Z"⟩
abbrev cX1_fits : ByteArray := prog_3_method_30_code
def yX1_fits : MethodName := ⟨RX1, "fits", "(II)Z"⟩
abbrev cX1_mayLay : ByteArray := prog_3_method_31_code
def yX1_mayLay : MethodName := ⟨RX1, "mayLay", "(II)Z"⟩
abbrev cX1_canBeRing : ByteArray := prog_3_method_32_code
def yX1_canBeRing : MethodName := ⟨RX1, "canBeRing", "()Z"⟩
abbrev cX1_layDown : ByteArray := prog_3_method_33_code
def yX1_layDown : MethodName := ⟨RX1, "layDown", "(II)I"⟩
abbrev cX1_scoreNow : ByteArray := prog_3_method_34_code
def yX1_scoreNow : MethodName := ⟨RX1, "scoreNow", "()I"⟩
abbrev cX1_upMarks : ByteArray := prog_3_method_35_code
def yX1_upMarks : MethodName := ⟨RX1, "upMarks", "()I"⟩
abbrev cX1_liftLast : ByteArray := prog_3_method_36_code
def yX1_liftLast : MethodName := ⟨RX1, "liftLast", "(I)V"⟩
abbrev cX1_backWay : ByteArray := prog_3_method_37_code
def yX1_backWay : MethodName := ⟨RX1, "backWay", "(II)I"⟩
abbrev cX1_backWayAt : ByteArray := prog_3_method_38_code
def yX1_backWayAt : MethodName := ⟨RX1, "backWayAt", "(I)I"⟩
abbrev cX1_lastBackWay : ByteArray := prog_3_method_39_code
def yX1_lastBackWay : MethodName := ⟨RX1, "lastBackWay", "()I"⟩
abbrev cX1_lockOf : ByteArray := prog_3_method_40_code
def yX1_lockOf : MethodName := ⟨RX1, "lockOf", "(I)I"⟩
abbrev cX1_hasPawl : ByteArray := prog_3_method_41_code
def yX1_hasPawl : MethodName := ⟨RX1, "hasPawl", "(I)Z"⟩
abbrev cX1_turnTrain : ByteArray := prog_3_method_42_code
def yX1_turnTrain : MethodName := ⟨RX1, "turnTrain", "(I)V"⟩
abbrev cX1_turnWheel : ByteArray := prog_3_method_43_code
def yX1_turnWheel : MethodName := ⟨RX1, "turnWheel", "(III)V"⟩
abbrev cX1_remainder : ByteArray := prog_3_method_44_code
def yX1_remainder : MethodName := ⟨RX1, "remainder", "(II)I"⟩
abbrev cX1_teethAround : ByteArray := prog_3_method_45_code
def yX1_teethAround : MethodName := ⟨RX1, "teethAround", "()I"⟩
abbrev cX1_commonMultiple : ByteArray := prog_3_method_46_code
def yX1_commonMultiple : MethodName := ⟨RX1, "commonMultiple", "(II)I"⟩
abbrev cX1_teethUntilUp : ByteArray := prog_3_method_47_code
def yX1_teethUntilUp : MethodName := ⟨RX1, "teethUntilUp", "()I"⟩
abbrev cX1_firstUp : ByteArray := prog_3_method_48_code
def yX1_firstUp : MethodName := ⟨RX1, "firstUp", "(IIIII)I"⟩
abbrev cX1_teethUntilPoint : ByteArray := prog_3_method_49_code
def yX1_teethUntilPoint : MethodName := ⟨RX1, "teethUntilPoint", "(II)I"⟩
abbrev cX1_layDrawn : ByteArray := prog_3_method_50_code
def yX1_layDrawn : MethodName := ⟨RX1, "layDrawn", "(I)Z"⟩
abbrev cX1_countLays : ByteArray := prog_3_method_51_code
def yX1_countLays : MethodName := ⟨RX1, "countLays", "(I)I"⟩
def RX2 : String := "ToothStones$Tape"
def TX2 : u_T := fun k => match k with
  | 0 => ("ToothStones$Tape", "bytes", "[I", true)
  | 1 => ("ToothStones$Tape", "length", "I", false)
  | _ => ("ToothStones$Tape", "place", "I", false)
def tyX2 : Nat → FieldType := fun k => match k with
  | 0 => .array .int
  | 1 => .int
  | _ => .int
abbrev wsX20 : List Cond := u_ws RX2 TX2 3
theorem nmX2 : ∀ a, a < 3 → ∀ b, b < 3 → a ≠ b → (TX2 a).2.1 ≠ (TX2 b).2.1 := by decide +kernel
theorem tyX2_ok : ∀ k, k < 3 → parseFieldDescriptor (TX2 k).2.2.1 = some (tyX2 k) := by decide +kernel
abbrev cX2_init : ByteArray := prog_4_method_1_code
def yX2_init : MethodName := ⟨RX2, "<init>", "()V"⟩
abbrev cX2_length : ByteArray := prog_4_method_2_code
def yX2_length : MethodName := ⟨RX2, "length", "()I"⟩
abbrev cX2_addByte : ByteArray := prog_4_method_3_code
def yX2_addByte : MethodName := ⟨RX2, "addByte", "(I)V"⟩
abbrev cX2_empty : ByteArray := prog_4_method_4_code
def yX2_empty : MethodName := ⟨RX2, "empty", "()V"⟩
abbrev cX2_readTo : ByteArray := prog_4_method_5_code
def yX2_readTo : MethodName := ⟨RX2, "readTo", "(LToothStones$Table;)I"⟩
abbrev cX2_stepOn : ByteArray := prog_4_method_6_code
def yX2_stepOn : MethodName := ⟨RX2, "stepOn", "()V"⟩
abbrev cX2_readStone : ByteArray := prog_4_method_7_code
def yX2_readStone : MethodName := ⟨RX2, "readStone", "(LToothStones$Table;)Z"⟩
abbrev cX2_readMark : ByteArray := prog_4_method_8_code
def yX2_readMark : MethodName := ⟨RX2, "readMark", "(LToothStones$Table;II)Z"⟩
abbrev cX2_readKind : ByteArray := prog_4_method_9_code
def yX2_readKind : MethodName := ⟨RX2, "readKind", "()I"⟩
abbrev cX2_readDigit : ByteArray := prog_4_method_10_code
def yX2_readDigit : MethodName := ⟨RX2, "readDigit", "(II)I"⟩
abbrev cX2_readSign : ByteArray := prog_4_method_11_code
def yX2_readSign : MethodName := ⟨RX2, "readSign", "(C)Z"⟩
def RX3 : String := "ToothStones"
def TX3 : u_T := fun k => match k with
  | 0 => ("ToothStones", "table", "LToothStones$Table;", true)
  | 1 => ("ToothStones", "kept", "LToothStones$Table;", true)
  | 2 => ("ToothStones", "isKept", "Z", false)
  | 3 => ("ToothStones", "trial", "LToothStones$Table;", true)
  | 4 => ("ToothStones", "answerTrial", "LToothStones$Table;", true)
  | 5 => ("ToothStones", "tape", "LToothStones$Tape;", true)
  | 6 => ("ToothStones", "sheets", "[LToothStones$Sheet;", true)
  | 7 => ("ToothStones", "order", "[I", true)
  | _ => ("ToothStones", "firstOrder", "[I", true)
def tyX3 : Nat → FieldType := fun k => match k with
  | 0 => .object "ToothStones$Table"
  | 1 => .object "ToothStones$Table"
  | 2 => .boolean
  | 3 => .object "ToothStones$Table"
  | 4 => .object "ToothStones$Table"
  | 5 => .object "ToothStones$Tape"
  | 6 => .array (.object "ToothStones$Sheet")
  | 7 => .array .int
  | _ => .array .int
abbrev wsX30 : List Cond := u_ws RX3 TX3 9
theorem nmX3 : ∀ a, a < 9 → ∀ b, b < 9 → a ≠ b → (TX3 a).2.1 ≠ (TX3 b).2.1 := by decide +kernel
theorem tyX3_ok : ∀ k, k < 9 → parseFieldDescriptor (TX3 k).2.2.1 = some (tyX3 k) := by decide +kernel
abbrev cX3_init : ByteArray := prog_1_method_1_code
def yX3_init : MethodName := ⟨RX3, "<init>", "()V"⟩
abbrev cX3_stone : ByteArray := prog_1_method_2_code
def yX3_stone : MethodName := ⟨RX3, "stone", "(III)I"⟩
abbrev cX3_mark : ByteArray := prog_1_method_3_code
def yX3_mark : MethodName := ⟨RX3, "mark", "(III)I"⟩
abbrev cX3_told : ByteArray := prog_1_method_4_code
def yX3_told : MethodName := ⟨RX3, "told", "(II)I"⟩
abbrev cX3_deal : ByteArray := prog_1_method_5_code
def yX3_deal : MethodName := ⟨RX3, "deal", "(II)I"⟩
abbrev cX3_type : ByteArray := prog_1_method_6_code
def yX3_type : MethodName := ⟨RX3, "type", "(JI)I"⟩
abbrev cX3_stones : ByteArray := prog_1_method_7_code
def yX3_stones : MethodName := ⟨RX3, "stones", "()I"⟩
abbrev cX3_count : ByteArray := prog_1_method_8_code
def yX3_count : MethodName := ⟨RX3, "count", "(I)I"⟩
abbrev cX3_may : ByteArray := prog_1_method_9_code
def yX3_may : MethodName := ⟨RX3, "may", "(II)I"⟩
abbrev cX3_lay : ByteArray := prog_1_method_10_code
def yX3_lay : MethodName := ⟨RX3, "lay", "(II)I"⟩
abbrev cX3_take : ByteArray := prog_1_method_11_code
def yX3_take : MethodName := ⟨RX3, "take", "(I)I"⟩
abbrev cX3_shut : ByteArray := prog_1_method_12_code
def yX3_shut : MethodName := ⟨RX3, "shut", "(Z)I"⟩
abbrev cX3_locked : ByteArray := prog_1_method_13_code
def yX3_locked : MethodName := ⟨RX3, "locked", "()I"⟩
abbrev cX3_crank : ByteArray := prog_1_method_14_code
def yX3_crank : MethodName := ⟨RX3, "crank", "(I)I"⟩
abbrev cX3_around : ByteArray := prog_1_method_15_code
def yX3_around : MethodName := ⟨RX3, "around", "()I"⟩
abbrev cX3_up : ByteArray := prog_1_method_16_code
def yX3_up : MethodName := ⟨RX3, "up", "()I"⟩
abbrev cX3_best : ByteArray := prog_1_method_17_code
def yX3_best : MethodName := ⟨RX3, "best", "(II)I"⟩
abbrev cX3_point : ByteArray := prog_1_method_18_code
def yX3_point : MethodName := ⟨RX3, "point", "(II)I"⟩
abbrev cX3_match : ByteArray := prog_1_method_19_code
def yX3_match : MethodName := ⟨RX3, "match", "(I)I"⟩
abbrev cX3_seed : ByteArray := prog_1_method_20_code
def yX3_seed : MethodName := ⟨RX3, "seed", "(I)I"⟩
abbrev cX3_image : ByteArray := prog_1_method_21_code
def yX3_image : MethodName := ⟨RX3, "image", "()I"⟩
abbrev cX3_restore : ByteArray := prog_1_method_22_code
def yX3_restore : MethodName := ⟨RX3, "restore", "()I"⟩
abbrev cX3_judged : ByteArray := prog_1_method_23_code
def yX3_judged : MethodName := ⟨RX3, "judged", "(IIII)I"⟩
abbrev cX3_orders : ByteArray := prog_1_method_24_code
def yX3_orders : MethodName := ⟨RX3, "orders", "(IIIII)I"⟩
abbrev cX3_sheet : ByteArray := prog_1_method_25_code
def yX3_sheet : MethodName := ⟨RX3, "sheet", "(III)I"⟩
abbrev cX3_drop : ByteArray := prog_1_method_26_code
def yX3_drop : MethodName := ⟨RX3, "drop", "(I)I"⟩
abbrev cX3_item : ByteArray := prog_1_method_27_code
def yX3_item : MethodName := ⟨RX3, "item", "(IIII)I"⟩
abbrev cX3_film : ByteArray := prog_1_method_28_code
def yX3_film : MethodName := ⟨RX3, "film", "(III)I"⟩
abbrev cX3_isWithin : ByteArray := prog_1_method_29_code
def yX3_isWithin : MethodName := ⟨RX3, "isWithin", "(III)Z"⟩
abbrev cX3_isTeeth : ByteArray := prog_1_method_30_code
def yX3_isTeeth : MethodName := ⟨RX3, "isTeeth", "(I)Z"⟩
abbrev cX3_isWheel : ByteArray := prog_1_method_31_code
def yX3_isWheel : MethodName := ⟨RX3, "isWheel", "(I)Z"⟩
abbrev cX3_isHand : ByteArray := prog_1_method_32_code
def yX3_isHand : MethodName := ⟨RX3, "isHand", "(I)Z"⟩
abbrev cX3_isLane : ByteArray := prog_1_method_33_code
def yX3_isLane : MethodName := ⟨RX3, "isLane", "(I)Z"⟩
abbrev cX3_lowByte : ByteArray := prog_1_method_34_code
def yX3_lowByte : MethodName := ⟨RX3, "lowByte", "(JI)I"⟩
abbrev cX3_sheetAt : ByteArray := prog_1_method_35_code
def yX3_sheetAt : MethodName := ⟨RX3, "sheetAt", "(I)LToothStones$Sheet;"⟩
abbrev cX3_crankRefusal : ByteArray := prog_1_method_36_code
def yX3_crankRefusal : MethodName := ⟨RX3, "crankRefusal", "()I"⟩
abbrev cX3_worthOf : ByteArray := prog_1_method_37_code
def yX3_worthOf : MethodName := ⟨RX3, "worthOf", "(II)I"⟩
abbrev cX3_firstThatMayNot : ByteArray := prog_1_method_38_code
def yX3_firstThatMayNot : MethodName := ⟨RX3, "firstThatMayNot", "(LToothStones$Sheet;II)I"⟩
abbrev cX3_countOrders : ByteArray := prog_1_method_39_code
def yX3_countOrders : MethodName := ⟨RX3, "countOrders", "(IILToothStones$Sheet;I)I"⟩
abbrev cX3_startOrder : ByteArray := prog_1_method_40_code
def yX3_startOrder : MethodName := ⟨RX3, "startOrder", "(I)V"⟩
abbrev cX3_nextOrder : ByteArray := prog_1_method_41_code
def yX3_nextOrder : MethodName := ⟨RX3, "nextOrder", "(I)Z"⟩
abbrev cX3_swapInOrder : ByteArray := prog_1_method_42_code
def yX3_swapInOrder : MethodName := ⟨RX3, "swapInOrder", "(II)V"⟩
abbrev cX3_bringsMarks : ByteArray := prog_1_method_43_code
def yX3_bringsMarks : MethodName := ⟨RX3, "bringsMarks", "(IILToothStones$Sheet;I)Z"⟩
abbrev cX3_isIn : ByteArray := prog_1_method_44_code
def yX3_isIn : MethodName := ⟨RX3, "isIn", "(II)Z"⟩
abbrev cX3_at : ByteArray := prog_1_method_45_code
def yX3_at : MethodName := ⟨RX3, "at", "([II)I"⟩
abbrev cX3_put : ByteArray := prog_1_method_46_code
def yX3_put : MethodName := ⟨RX3, "put", "([III)V"⟩
abbrev cX3_copyRow : ByteArray := prog_1_method_47_code
def yX3_copyRow : MethodName := ⟨RX3, "copyRow", "([I[I)V"⟩
def RX4 : String := "ToothStonesModel"
def TX4 : u_T := fun k => match k with
  | 0 => ("ToothStonesModel", "z", "[I", true)
  | 1 => ("ToothStonesModel", "many", "I", false)
  | 2 => ("ToothStonesModel", "train", "[I", true)
  | 3 => ("ToothStonesModel", "fronts", "[I", true)
  | 4 => ("ToothStonesModel", "size", "I", false)
  | 5 => ("ToothStonesModel", "scores", "[I", true)
  | 6 => ("ToothStonesModel", "ring", "Z", false)
  | 7 => ("ToothStonesModel", "drawn", "I", false)
  | 8 => ("ToothStonesModel", "tape", "[I", true)
  | 9 => ("ToothStonesModel", "taped", "I", false)
  | 10 => ("ToothStonesModel", "place", "I", false)
  | 11 => ("ToothStonesModel", "reads", "I", false)
  | 12 => ("ToothStonesModel", "read", "[I", true)
  | 13 => ("ToothStonesModel", "frontWays", "[I", true)
  | 14 => ("ToothStonesModel", "backWays", "[I", true)
  | 15 => ("ToothStonesModel", "had", "[I", true)
  | 16 => ("ToothStonesModel", "hadDeep", "[I", true)
  | 17 => ("ToothStonesModel", "isKept", "Z", false)
  | 18 => ("ToothStonesModel", "kept", "[I", true)
  | 19 => ("ToothStonesModel", "keptTrain", "[I", true)
  | 20 => ("ToothStonesModel", "keptCounts", "[I", true)
  | 21 => ("ToothStonesModel", "lanes", "[I", true)
  | 22 => ("ToothStonesModel", "rowSizes", "[I", true)
  | 23 => ("ToothStonesModel", "items", "[I", true)
  | 24 => ("ToothStonesModel", "some", "[I", true)
  | 25 => ("ToothStonesModel", "first", "[I", true)
  | 26 => ("ToothStonesModel", "hadTrain", "[I", true)
  | _ => ("ToothStonesModel", "someMany", "I", false)
def tyX4 : Nat → FieldType := fun k => match k with
  | 0 => .array .int
  | 1 => .int
  | 2 => .array .int
  | 3 => .array .int
  | 4 => .int
  | 5 => .array .int
  | 6 => .boolean
  | 7 => .int
  | 8 => .array .int
  | 9 => .int
  | 10 => .int
  | 11 => .int
  | 12 => .array .int
  | 13 => .array .int
  | 14 => .array .int
  | 15 => .array .int
  | 16 => .array .int
  | 17 => .boolean
  | 18 => .array .int
  | 19 => .array .int
  | 20 => .array .int
  | 21 => .array .int
  | 22 => .array .int
  | 23 => .array .int
  | 24 => .array .int
  | 25 => .array .int
  | 26 => .array .int
  | _ => .int
abbrev wsX40 : List Cond := u_ws RX4 TX4 28
theorem nmX4 : ∀ a, a < 28 → ∀ b, b < 28 → a ≠ b → (TX4 a).2.1 ≠ (TX4 b).2.1 := by decide +kernel
theorem tyX4_ok : ∀ k, k < 28 → parseFieldDescriptor (TX4 k).2.2.1 = some (tyX4 k) := by decide +kernel
abbrev cX4_init : ByteArray := prog_6_method_1_code
def yX4_init : MethodName := ⟨RX4, "<init>", "()V"⟩
abbrev cX4_in : ByteArray := prog_6_method_2_code
def yX4_in : MethodName := ⟨RX4, "in", "(JJJ)Z"⟩
abbrev cX4_isStone : ByteArray := prog_6_method_3_code
def yX4_isStone : MethodName := ⟨RX4, "isStone", "(I)Z"⟩
abbrev cX4_teeth : ByteArray := prog_6_method_4_code
def yX4_teeth : MethodName := ⟨RX4, "teeth", "(II)I"⟩
abbrev cX4_add : ByteArray := prog_6_method_5_code
def yX4_add : MethodName := ⟨RX4, "add", "(IIIII)V"⟩
abbrev cX4_stone : ByteArray := prog_6_method_6_code
def yX4_stone : MethodName := ⟨RX4, "stone", "(III)I"⟩
abbrev cX4_mark : ByteArray := prog_6_method_7_code
def yX4_mark : MethodName := ⟨RX4, "mark", "(III)I"⟩
abbrev cX4_placeOf : ByteArray := prog_6_method_8_code
def yX4_placeOf : MethodName := ⟨RX4, "placeOf", "(I)I"⟩
abbrev cX4_told : ByteArray := prog_6_method_9_code
def yX4_told : MethodName := ⟨RX4, "told", "(II)I"⟩
abbrev cX4_deal : ByteArray := prog_6_method_10_code
def yX4_deal : MethodName := ⟨RX4, "deal", "(II)I"⟩
abbrev cX4_type : ByteArray := prog_6_method_11_code
def yX4_type : MethodName := ⟨RX4, "type", "(JI)I"⟩
abbrev cX4_nextByte : ByteArray := prog_6_method_12_code
def yX4_nextByte : MethodName := ⟨RX4, "nextByte", "()I"⟩
abbrev cX4_readDigit : ByteArray := prog_6_method_13_code
def yX4_readDigit : MethodName := ⟨RX4, "readDigit", "(III)Z"⟩
abbrev cX4_readStone : ByteArray := prog_6_method_14_code
def yX4_readStone : MethodName := ⟨RX4, "readStone", "(I)Z"⟩
abbrev cX4_readStones : ByteArray := prog_6_method_15_code
def yX4_readStones : MethodName := ⟨RX4, "readStones", "()Z"⟩
abbrev cX4_stones : ByteArray := prog_6_method_16_code
def yX4_stones : MethodName := ⟨RX4, "stones", "()I"⟩
abbrev cX4_isPawled : ByteArray := prog_6_method_17_code
def yX4_isPawled : MethodName := ⟨RX4, "isPawled", "(I)Z"⟩
abbrev cX4_findWays : ByteArray := prog_6_method_18_code
def yX4_findWays : MethodName := ⟨RX4, "findWays", "(I)V"⟩
abbrev cX4_lockedAt : ByteArray := prog_6_method_19_code
def yX4_lockedAt : MethodName := ⟨RX4, "lockedAt", "()I"⟩
abbrev cX4_isOdd : ByteArray := prog_6_method_20_code
def yX4_isOdd : MethodName := ⟨RX4, "isOdd", "()Z"⟩
abbrev cX4_isLocked : ByteArray := prog_6_method_21_code
def yX4_isLocked : MethodName := ⟨RX4, "isLocked", "()Z"⟩
abbrev cX4_wayForBack : ByteArray := prog_6_method_22_code
def yX4_wayForBack : MethodName := ⟨RX4, "wayForBack", "()I"⟩
abbrev cX4_round : ByteArray := prog_6_method_23_code
def yX4_round : MethodName := ⟨RX4, "round", "(III)I"⟩
abbrev cX4_turnAll : ByteArray := prog_6_method_24_code
def yX4_turnAll : MethodName := ⟨RX4, "turnAll", "(I)V"⟩
abbrev cX4_upMarks : ByteArray := prog_6_method_25_code
def yX4_upMarks : MethodName := ⟨RX4, "upMarks", "()I"⟩
abbrev cX4_count : ByteArray := prog_6_method_26_code
def yX4_count : MethodName := ⟨RX4, "count", "(I)I"⟩
abbrev cX4_mesh : ByteArray := prog_6_method_27_code
def yX4_mesh : MethodName := ⟨RX4, "mesh", "(II)Z"⟩
abbrev cX4_mayLay : ByteArray := prog_6_method_28_code
def yX4_mayLay : MethodName := ⟨RX4, "mayLay", "(II)Z"⟩
abbrev cX4_may : ByteArray := prog_6_method_29_code
def yX4_may : MethodName := ⟨RX4, "may", "(II)I"⟩
abbrev cX4_put : ByteArray := prog_6_method_30_code
def yX4_put : MethodName := ⟨RX4, "put", "(II)I"⟩
abbrev cX4_layOne : ByteArray := prog_6_method_31_code
def yX4_layOne : MethodName := ⟨RX4, "layOne", "(II)I"⟩
abbrev cX4_lay : ByteArray := prog_6_method_32_code
def yX4_lay : MethodName := ⟨RX4, "lay", "(II)I"⟩
abbrev cX4_take : ByteArray := prog_6_method_33_code
def yX4_take : MethodName := ⟨RX4, "take", "(I)I"⟩
abbrev cX4_shut : ByteArray := prog_6_method_34_code
def yX4_shut : MethodName := ⟨RX4, "shut", "(Z)I"⟩
abbrev cX4_locked : ByteArray := prog_6_method_35_code
def yX4_locked : MethodName := ⟨RX4, "locked", "()I"⟩
abbrev cX4_crank : ByteArray := prog_6_method_36_code
def yX4_crank : MethodName := ⟨RX4, "crank", "(I)I"⟩
abbrev cX4_isForwardLocked : ByteArray := prog_6_method_37_code
def yX4_isForwardLocked : MethodName := ⟨RX4, "isForwardLocked", "()Z"⟩
abbrev cX4_common : ByteArray := prog_6_method_38_code
def yX4_common : MethodName := ⟨RX4, "common", "(II)I"⟩
abbrev cX4_roundOf : ByteArray := prog_6_method_39_code
def yX4_roundOf : MethodName := ⟨RX4, "roundOf", "()I"⟩
abbrev cX4_around : ByteArray := prog_6_method_40_code
def yX4_around : MethodName := ⟨RX4, "around", "()I"⟩
abbrev cX4_teethTo : ByteArray := prog_6_method_41_code
def yX4_teethTo : MethodName := ⟨RX4, "teethTo", "(IIII)I"⟩
abbrev cX4_isUpBehind : ByteArray := prog_6_method_42_code
def yX4_isUpBehind : MethodName := ⟨RX4, "isUpBehind", "(I)Z"⟩
abbrev cX4_up : ByteArray := prog_6_method_43_code
def yX4_up : MethodName := ⟨RX4, "up", "()I"⟩
abbrev cX4_point : ByteArray := prog_6_method_44_code
def yX4_point : MethodName := ⟨RX4, "point", "(II)I"⟩
abbrev cX4_keepIn : ByteArray := prog_6_method_45_code
def yX4_keepIn : MethodName := ⟨RX4, "keepIn", "([I)V"⟩
abbrev cX4_bringBack : ByteArray := prog_6_method_46_code
def yX4_bringBack : MethodName := ⟨RX4, "bringBack", "([II)V"⟩
abbrev cX4_greatestOf : ByteArray := prog_6_method_47_code
def yX4_greatestOf : MethodName := ⟨RX4, "greatestOf", "(I)I"⟩
abbrev cX4_best : ByteArray := prog_6_method_48_code
def yX4_best : MethodName := ⟨RX4, "best", "(II)I"⟩
abbrev cX4_laysOf : ByteArray := prog_6_method_49_code
def yX4_laysOf : MethodName := ⟨RX4, "laysOf", "(II)I"⟩
abbrev cX4_match : ByteArray := prog_6_method_50_code
def yX4_match : MethodName := ⟨RX4, "match", "(I)I"⟩
abbrev cX4_seed : ByteArray := prog_6_method_51_code
def yX4_seed : MethodName := ⟨RX4, "seed", "(I)I"⟩
abbrev cX4_image : ByteArray := prog_6_method_52_code
def yX4_image : MethodName := ⟨RX4, "image", "()I"⟩
abbrev cX4_restore : ByteArray := prog_6_method_53_code
def yX4_restore : MethodName := ⟨RX4, "restore", "()I"⟩
abbrev cX4_isSheet : ByteArray := prog_6_method_54_code
def yX4_isSheet : MethodName := ⟨RX4, "isSheet", "(II)Z"⟩
abbrev cX4_sheet : ByteArray := prog_6_method_55_code
def yX4_sheet : MethodName := ⟨RX4, "sheet", "(III)I"⟩
abbrev cX4_drop : ByteArray := prog_6_method_56_code
def yX4_drop : MethodName := ⟨RX4, "drop", "(I)I"⟩
abbrev cX4_lacksRow : ByteArray := prog_6_method_57_code
def yX4_lacksRow : MethodName := ⟨RX4, "lacksRow", "(IIII)I"⟩
abbrev cX4_item : ByteArray := prog_6_method_58_code
def yX4_item : MethodName := ⟨RX4, "item", "(IIII)I"⟩
abbrev cX4_judged : ByteArray := prog_6_method_59_code
def yX4_judged : MethodName := ⟨RX4, "judged", "(IIII)I"⟩
abbrev cX4_nextOrder : ByteArray := prog_6_method_60_code
def yX4_nextOrder : MethodName := ⟨RX4, "nextOrder", "()Z"⟩
abbrev cX4_brings : ByteArray := prog_6_method_61_code
def yX4_brings : MethodName := ⟨RX4, "brings", "(II)Z"⟩
abbrev cX4_countOrders : ByteArray := prog_6_method_62_code
def yX4_countOrders : MethodName := ⟨RX4, "countOrders", "(II)I"⟩
abbrev cX4_orders : ByteArray := prog_6_method_63_code
def yX4_orders : MethodName := ⟨RX4, "orders", "(IIIII)I"⟩
abbrev cX4_film : ByteArray := prog_6_method_64_code
def yX4_film : MethodName := ⟨RX4, "film", "(III)I"⟩
def RJ6 : String := "java/lang/Integer"
def TJ6 : u_T := fun k => match k with
  | _ => ("", "", "", false)
def tyJ6 : Nat → FieldType := fun k => match k with
  | _ => .int
abbrev wsJ60 : List Cond := u_ws RJ6 TJ6 0
theorem nmJ6 : ∀ a, a < 0 → ∀ b, b < 0 → a ≠ b → (TJ6 a).2.1 ≠ (TJ6 b).2.1 := by decide +kernel
theorem tyJ6_ok : ∀ k, k < 0 → parseFieldDescriptor (TJ6 k).2.2.1 = some (tyJ6 k) := by decide +kernel
abbrev cJ6_bitCount_0f7a4 : ByteArray := prog_7_method_49_code
def yJ6_bitCount_0f7a4 : MethodName := ⟨RJ6, "bitCount", "(I)I"⟩
def RJ9 : String := "java/lang/Math"
def TJ9 : u_T := fun k => match k with
  | _ => ("", "", "", false)
def tyJ9 : Nat → FieldType := fun k => match k with
  | _ => .int
abbrev wsJ90 : List Cond := u_ws RJ9 TJ9 0
theorem nmJ9 : ∀ a, a < 0 → ∀ b, b < 0 → a ≠ b → (TJ9 a).2.1 ≠ (TJ9 b).2.1 := by decide +kernel
theorem tyJ9_ok : ∀ k, k < 0 → parseFieldDescriptor (TJ9 k).2.2.1 = some (tyJ9 k) := by decide +kernel
abbrev cJ9_floorMod_7cf53 : ByteArray := prog_8_method_50_code
def yJ9_floorMod_7cf53 : MethodName := ⟨RJ9, "floorMod", "(II)I"⟩
abbrev cJ9_abs_0f7a4 : ByteArray := prog_8_method_59_code
def yJ9_abs_0f7a4 : MethodName := ⟨RJ9, "abs", "(I)I"⟩
abbrev cJ9_max_7cf53 : ByteArray := prog_8_method_65_code
def yJ9_max_7cf53 : MethodName := ⟨RJ9, "max", "(II)I"⟩
abbrev cJ9_min_7cf53 : ByteArray := prog_8_method_69_code
def yJ9_min_7cf53 : MethodName := ⟨RJ9, "min", "(II)I"⟩
def RJ10 : String := "java/lang/System"
def TJ10 : u_T := fun k => match k with
  | _ => ("", "", "", false)
def tyJ10 : Nat → FieldType := fun k => match k with
  | _ => .int
abbrev wsJ100 : List Cond := u_ws RJ10 TJ10 0
theorem nmJ10 : ∀ a, a < 0 → ∀ b, b < 0 → a ≠ b → (TJ10 a).2.1 ≠ (TJ10 b).2.1 := by decide +kernel
theorem tyJ10_ok : ∀ k, k < 0 → parseFieldDescriptor (TJ10 k).2.2.1 = some (tyJ10 k) := by decide +kernel
def RL : String := "ToothStonesLaw"
abbrev cL_law : ByteArray := code
def yL_law : MethodName := ⟨RL, "law", "([I)Z"⟩
abbrev vwCl : List vw_C := [(RX0, TX0, 4), (RX1, TX1, 12), (RX2, TX2, 3), (RX3, TX3, 9), (RX4, TX4, 28)]
