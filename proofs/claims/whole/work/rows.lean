section
-- ===== PART A: goes FIRST, ahead of the names: the tables' words, and 'selects' of the private methods out of them =====
/-- a private method of a class that the tables say can be made, by its rows of tables_1 -/
def lw_okq (q : MethodName × Nat) : Prop := (q.1.cls ≠ "java/lang/invoke/MethodHandle" ∧ q.1.cls ≠ "java/lang/invoke/VarHandle") ∧ Cond.instantiable q.1.cls q.2 ∈ tables_1 ∧ Cond.privateMethod q.1 ∈ tables_1 ∧ Cond.instanceMethod q.1 ∈ tables_1
theorem lw_p0 : lw_okq (⟨"ToothStones$Table", "setNotLaid", "(I)V"⟩, 12) := ⟨⟨by decide +kernel, by decide +kernel⟩, List.mem_of_getElem? (i := 18) (by decide +kernel), List.mem_of_getElem? (i := 151) (by decide +kernel), List.mem_of_getElem? (i := 152) (by decide +kernel)⟩
theorem lw_p1 : lw_okq (⟨"ToothStones$Tape", "stepOn", "()V"⟩, 3) := ⟨⟨by decide +kernel, by decide +kernel⟩, List.mem_of_getElem? (i := 62) (by decide +kernel), List.mem_of_getElem? (i := 252) (by decide +kernel), List.mem_of_getElem? (i := 253) (by decide +kernel)⟩
theorem lw_p2 : lw_okq (⟨"ToothStones$Tape", "readStone", "(LToothStones$Table;)Z"⟩, 3) := ⟨⟨by decide +kernel, by decide +kernel⟩, List.mem_of_getElem? (i := 62) (by decide +kernel), List.mem_of_getElem? (i := 257) (by decide +kernel), List.mem_of_getElem? (i := 258) (by decide +kernel)⟩
theorem lw_p3 : lw_okq (⟨"ToothStones$Tape", "readDigit", "(II)I"⟩, 3) := ⟨⟨by decide +kernel, by decide +kernel⟩, List.mem_of_getElem? (i := 62) (by decide +kernel), List.mem_of_getElem? (i := 261) (by decide +kernel), List.mem_of_getElem? (i := 262) (by decide +kernel)⟩
theorem lw_p4 : lw_okq (⟨"ToothStones$Tape", "readKind", "()I"⟩, 3) := ⟨⟨by decide +kernel, by decide +kernel⟩, List.mem_of_getElem? (i := 62) (by decide +kernel), List.mem_of_getElem? (i := 266) (by decide +kernel), List.mem_of_getElem? (i := 267) (by decide +kernel)⟩
theorem lw_p5 : lw_okq (⟨"ToothStones$Tape", "readSign", "(C)Z"⟩, 3) := ⟨⟨by decide +kernel, by decide +kernel⟩, List.mem_of_getElem? (i := 62) (by decide +kernel), List.mem_of_getElem? (i := 270) (by decide +kernel), List.mem_of_getElem? (i := 271) (by decide +kernel)⟩
theorem lw_p6 : lw_okq (⟨"ToothStones$Tape", "readMark", "(LToothStones$Table;II)Z"⟩, 3) := ⟨⟨by decide +kernel, by decide +kernel⟩, List.mem_of_getElem? (i := 62) (by decide +kernel), List.mem_of_getElem? (i := 275) (by decide +kernel), List.mem_of_getElem? (i := 276) (by decide +kernel)⟩
theorem lw_p7 : lw_okq (⟨"ToothStones$Table", "lastTeeth", "()I"⟩, 12) := ⟨⟨by decide +kernel, by decide +kernel⟩, List.mem_of_getElem? (i := 18) (by decide +kernel), List.mem_of_getElem? (i := 329) (by decide +kernel), List.mem_of_getElem? (i := 330) (by decide +kernel)⟩
theorem lw_p8 : lw_okq (⟨"ToothStones$Table", "backWayAt", "(I)I"⟩, 12) := ⟨⟨by decide +kernel, by decide +kernel⟩, List.mem_of_getElem? (i := 18) (by decide +kernel), List.mem_of_getElem? (i := 352) (by decide +kernel), List.mem_of_getElem? (i := 353) (by decide +kernel)⟩
theorem lw_p9 : lw_okq (⟨"ToothStones$Table", "backWay", "(II)I"⟩, 12) := ⟨⟨by decide +kernel, by decide +kernel⟩, List.mem_of_getElem? (i := 18) (by decide +kernel), List.mem_of_getElem? (i := 356) (by decide +kernel), List.mem_of_getElem? (i := 357) (by decide +kernel)⟩
theorem lw_p10 : lw_okq (⟨"ToothStones$Table", "hasPawl", "(I)Z"⟩, 12) := ⟨⟨by decide +kernel, by decide +kernel⟩, List.mem_of_getElem? (i := 18) (by decide +kernel), List.mem_of_getElem? (i := 364) (by decide +kernel), List.mem_of_getElem? (i := 365) (by decide +kernel)⟩
theorem lw_p11 : lw_okq (⟨"ToothStones$Table", "turnWheel", "(III)V"⟩, 12) := ⟨⟨by decide +kernel, by decide +kernel⟩, List.mem_of_getElem? (i := 18) (by decide +kernel), List.mem_of_getElem? (i := 373) (by decide +kernel), List.mem_of_getElem? (i := 374) (by decide +kernel)⟩
theorem lw_p12 : lw_okq (⟨"ToothStones$Table", "scoreNow", "()I"⟩, 12) := ⟨⟨by decide +kernel, by decide +kernel⟩, List.mem_of_getElem? (i := 18) (by decide +kernel), List.mem_of_getElem? (i := 387) (by decide +kernel), List.mem_of_getElem? (i := 388) (by decide +kernel)⟩
theorem lw_p13 : lw_okq (⟨"ToothStones", "crankRefusal", "()I"⟩, 9) := ⟨⟨by decide +kernel, by decide +kernel⟩, List.mem_of_getElem? (i := 10) (by decide +kernel), List.mem_of_getElem? (i := 432) (by decide +kernel), List.mem_of_getElem? (i := 433) (by decide +kernel)⟩
theorem lw_p14 : lw_okq (⟨"ToothStones$Table", "firstUp", "(IIIII)I"⟩, 12) := ⟨⟨by decide +kernel, by decide +kernel⟩, List.mem_of_getElem? (i := 18) (by decide +kernel), List.mem_of_getElem? (i := 451) (by decide +kernel), List.mem_of_getElem? (i := 452) (by decide +kernel)⟩
theorem lw_p15 : lw_okq (⟨"ToothStones", "worthOf", "(II)I"⟩, 9) := ⟨⟨by decide +kernel, by decide +kernel⟩, List.mem_of_getElem? (i := 10) (by decide +kernel), List.mem_of_getElem? (i := 466) (by decide +kernel), List.mem_of_getElem? (i := 467) (by decide +kernel)⟩
def lw_privs_1 : List (MethodName × Nat) := [(⟨"ToothStones$Table", "setNotLaid", "(I)V"⟩, 12), (⟨"ToothStones$Tape", "stepOn", "()V"⟩, 3), (⟨"ToothStones$Tape", "readStone", "(LToothStones$Table;)Z"⟩, 3), (⟨"ToothStones$Tape", "readDigit", "(II)I"⟩, 3), (⟨"ToothStones$Tape", "readKind", "()I"⟩, 3), (⟨"ToothStones$Tape", "readSign", "(C)Z"⟩, 3), (⟨"ToothStones$Tape", "readMark", "(LToothStones$Table;II)Z"⟩, 3), (⟨"ToothStones$Table", "lastTeeth", "()I"⟩, 12), (⟨"ToothStones$Table", "backWayAt", "(I)I"⟩, 12), (⟨"ToothStones$Table", "backWay", "(II)I"⟩, 12), (⟨"ToothStones$Table", "hasPawl", "(I)Z"⟩, 12), (⟨"ToothStones$Table", "turnWheel", "(III)V"⟩, 12), (⟨"ToothStones$Table", "scoreNow", "()I"⟩, 12), (⟨"ToothStones", "crankRefusal", "()I"⟩, 9), (⟨"ToothStones$Table", "firstUp", "(IIIII)I"⟩, 12), (⟨"ToothStones", "worthOf", "(II)I"⟩, 9)]
theorem lw_r1 : ∀ q ∈ lw_privs_1, lw_okq q := List.forall_mem_cons.mpr ⟨lw_p0, List.forall_mem_cons.mpr ⟨lw_p1, List.forall_mem_cons.mpr ⟨lw_p2, List.forall_mem_cons.mpr ⟨lw_p3, List.forall_mem_cons.mpr ⟨lw_p4, List.forall_mem_cons.mpr ⟨lw_p5, List.forall_mem_cons.mpr ⟨lw_p6, List.forall_mem_cons.mpr ⟨lw_p7, List.forall_mem_cons.mpr ⟨lw_p8, List.forall_mem_cons.mpr ⟨lw_p9, List.forall_mem_cons.mpr ⟨lw_p10, List.forall_mem_cons.mpr ⟨lw_p11, List.forall_mem_cons.mpr ⟨lw_p12, List.forall_mem_cons.mpr ⟨lw_p13, List.forall_mem_cons.mpr ⟨lw_p14, List.forall_mem_cons.mpr ⟨lw_p15, fun _ h => absurd h List.not_mem_nil⟩⟩⟩⟩⟩⟩⟩⟩⟩⟩⟩⟩⟩⟩⟩⟩
theorem lw_p16 : lw_okq (⟨"ToothStones$Table", "countLays", "(I)I"⟩, 12) := ⟨⟨by decide +kernel, by decide +kernel⟩, List.mem_of_getElem? (i := 18) (by decide +kernel), List.mem_of_getElem? (i := 490) (by decide +kernel), List.mem_of_getElem? (i := 491) (by decide +kernel)⟩
theorem lw_p17 : lw_okq (⟨"ToothStones", "sheetAt", "(I)LToothStones$Sheet;"⟩, 9) := ⟨⟨by decide +kernel, by decide +kernel⟩, List.mem_of_getElem? (i := 10) (by decide +kernel), List.mem_of_getElem? (i := 523) (by decide +kernel), List.mem_of_getElem? (i := 524) (by decide +kernel)⟩
theorem lw_p18 : lw_okq (⟨"ToothStones", "firstThatMayNot", "(LToothStones$Sheet;II)I"⟩, 9) := ⟨⟨by decide +kernel, by decide +kernel⟩, List.mem_of_getElem? (i := 10) (by decide +kernel), List.mem_of_getElem? (i := 539) (by decide +kernel), List.mem_of_getElem? (i := 540) (by decide +kernel)⟩
theorem lw_p19 : lw_okq (⟨"ToothStones", "countOrders", "(IILToothStones$Sheet;I)I"⟩, 9) := ⟨⟨by decide +kernel, by decide +kernel⟩, List.mem_of_getElem? (i := 10) (by decide +kernel), List.mem_of_getElem? (i := 557) (by decide +kernel), List.mem_of_getElem? (i := 558) (by decide +kernel)⟩
theorem lw_p20 : lw_okq (⟨"ToothStones", "startOrder", "(I)V"⟩, 9) := ⟨⟨by decide +kernel, by decide +kernel⟩, List.mem_of_getElem? (i := 10) (by decide +kernel), List.mem_of_getElem? (i := 561) (by decide +kernel), List.mem_of_getElem? (i := 562) (by decide +kernel)⟩
theorem lw_p21 : lw_okq (⟨"ToothStones", "bringsMarks", "(IILToothStones$Sheet;I)Z"⟩, 9) := ⟨⟨by decide +kernel, by decide +kernel⟩, List.mem_of_getElem? (i := 10) (by decide +kernel), List.mem_of_getElem? (i := 569) (by decide +kernel), List.mem_of_getElem? (i := 570) (by decide +kernel)⟩
theorem lw_p22 : lw_okq (⟨"ToothStones", "nextOrder", "(I)Z"⟩, 9) := ⟨⟨by decide +kernel, by decide +kernel⟩, List.mem_of_getElem? (i := 10) (by decide +kernel), List.mem_of_getElem? (i := 575) (by decide +kernel), List.mem_of_getElem? (i := 576) (by decide +kernel)⟩
theorem lw_p23 : lw_okq (⟨"ToothStones", "swapInOrder", "(II)V"⟩, 9) := ⟨⟨by decide +kernel, by decide +kernel⟩, List.mem_of_getElem? (i := 10) (by decide +kernel), List.mem_of_getElem? (i := 579) (by decide +kernel), List.mem_of_getElem? (i := 580) (by decide +kernel)⟩
theorem lw_p24 : lw_okq (⟨"ToothStonesModel", "add", "(IIIII)V"⟩, 28) := ⟨⟨by decide +kernel, by decide +kernel⟩, List.mem_of_getElem? (i := 617) (by decide +kernel), List.mem_of_getElem? (i := 717) (by decide +kernel), List.mem_of_getElem? (i := 718) (by decide +kernel)⟩
theorem lw_p25 : lw_okq (⟨"ToothStonesModel", "isStone", "(I)Z"⟩, 28) := ⟨⟨by decide +kernel, by decide +kernel⟩, List.mem_of_getElem? (i := 617) (by decide +kernel), List.mem_of_getElem? (i := 725) (by decide +kernel), List.mem_of_getElem? (i := 726) (by decide +kernel)⟩
theorem lw_p26 : lw_okq (⟨"ToothStonesModel", "teeth", "(II)I"⟩, 28) := ⟨⟨by decide +kernel, by decide +kernel⟩, List.mem_of_getElem? (i := 617) (by decide +kernel), List.mem_of_getElem? (i := 729) (by decide +kernel), List.mem_of_getElem? (i := 730) (by decide +kernel)⟩
theorem lw_p27 : lw_okq (⟨"ToothStonesModel", "placeOf", "(I)I"⟩, 28) := ⟨⟨by decide +kernel, by decide +kernel⟩, List.mem_of_getElem? (i := 617) (by decide +kernel), List.mem_of_getElem? (i := 738) (by decide +kernel), List.mem_of_getElem? (i := 739) (by decide +kernel)⟩
theorem lw_p28 : lw_okq (⟨"ToothStonesModel", "readStones", "()Z"⟩, 28) := ⟨⟨by decide +kernel, by decide +kernel⟩, List.mem_of_getElem? (i := 617) (by decide +kernel), List.mem_of_getElem? (i := 759) (by decide +kernel), List.mem_of_getElem? (i := 760) (by decide +kernel)⟩
theorem lw_p29 : lw_okq (⟨"ToothStonesModel", "readStone", "(I)Z"⟩, 28) := ⟨⟨by decide +kernel, by decide +kernel⟩, List.mem_of_getElem? (i := 617) (by decide +kernel), List.mem_of_getElem? (i := 763) (by decide +kernel), List.mem_of_getElem? (i := 764) (by decide +kernel)⟩
theorem lw_p30 : lw_okq (⟨"ToothStonesModel", "readDigit", "(III)Z"⟩, 28) := ⟨⟨by decide +kernel, by decide +kernel⟩, List.mem_of_getElem? (i := 617) (by decide +kernel), List.mem_of_getElem? (i := 767) (by decide +kernel), List.mem_of_getElem? (i := 768) (by decide +kernel)⟩
theorem lw_p31 : lw_okq (⟨"ToothStonesModel", "nextByte", "()I"⟩, 28) := ⟨⟨by decide +kernel, by decide +kernel⟩, List.mem_of_getElem? (i := 617) (by decide +kernel), List.mem_of_getElem? (i := 771) (by decide +kernel), List.mem_of_getElem? (i := 772) (by decide +kernel)⟩
def lw_privs_2 : List (MethodName × Nat) := [(⟨"ToothStones$Table", "countLays", "(I)I"⟩, 12), (⟨"ToothStones", "sheetAt", "(I)LToothStones$Sheet;"⟩, 9), (⟨"ToothStones", "firstThatMayNot", "(LToothStones$Sheet;II)I"⟩, 9), (⟨"ToothStones", "countOrders", "(IILToothStones$Sheet;I)I"⟩, 9), (⟨"ToothStones", "startOrder", "(I)V"⟩, 9), (⟨"ToothStones", "bringsMarks", "(IILToothStones$Sheet;I)Z"⟩, 9), (⟨"ToothStones", "nextOrder", "(I)Z"⟩, 9), (⟨"ToothStones", "swapInOrder", "(II)V"⟩, 9), (⟨"ToothStonesModel", "add", "(IIIII)V"⟩, 28), (⟨"ToothStonesModel", "isStone", "(I)Z"⟩, 28), (⟨"ToothStonesModel", "teeth", "(II)I"⟩, 28), (⟨"ToothStonesModel", "placeOf", "(I)I"⟩, 28), (⟨"ToothStonesModel", "readStones", "()Z"⟩, 28), (⟨"ToothStonesModel", "readStone", "(I)Z"⟩, 28), (⟨"ToothStonesModel", "readDigit", "(III)Z"⟩, 28), (⟨"ToothStonesModel", "nextByte", "()I"⟩, 28)]
theorem lw_r2 : ∀ q ∈ lw_privs_2, lw_okq q := List.forall_mem_cons.mpr ⟨lw_p16, List.forall_mem_cons.mpr ⟨lw_p17, List.forall_mem_cons.mpr ⟨lw_p18, List.forall_mem_cons.mpr ⟨lw_p19, List.forall_mem_cons.mpr ⟨lw_p20, List.forall_mem_cons.mpr ⟨lw_p21, List.forall_mem_cons.mpr ⟨lw_p22, List.forall_mem_cons.mpr ⟨lw_p23, List.forall_mem_cons.mpr ⟨lw_p24, List.forall_mem_cons.mpr ⟨lw_p25, List.forall_mem_cons.mpr ⟨lw_p26, List.forall_mem_cons.mpr ⟨lw_p27, List.forall_mem_cons.mpr ⟨lw_p28, List.forall_mem_cons.mpr ⟨lw_p29, List.forall_mem_cons.mpr ⟨lw_p30, List.forall_mem_cons.mpr ⟨lw_p31, fun _ h => absurd h List.not_mem_nil⟩⟩⟩⟩⟩⟩⟩⟩⟩⟩⟩⟩⟩⟩⟩⟩
theorem lw_p32 : lw_okq (⟨"ToothStonesModel", "upMarks", "()I"⟩, 28) := ⟨⟨by decide +kernel, by decide +kernel⟩, List.mem_of_getElem? (i := 617) (by decide +kernel), List.mem_of_getElem? (i := 779) (by decide +kernel), List.mem_of_getElem? (i := 780) (by decide +kernel)⟩
theorem lw_p33 : lw_okq (⟨"ToothStonesModel", "mayLay", "(II)Z"⟩, 28) := ⟨⟨by decide +kernel, by decide +kernel⟩, List.mem_of_getElem? (i := 617) (by decide +kernel), List.mem_of_getElem? (i := 787) (by decide +kernel), List.mem_of_getElem? (i := 788) (by decide +kernel)⟩
theorem lw_p34 : lw_okq (⟨"ToothStonesModel", "layOne", "(II)I"⟩, 28) := ⟨⟨by decide +kernel, by decide +kernel⟩, List.mem_of_getElem? (i := 617) (by decide +kernel), List.mem_of_getElem? (i := 798) (by decide +kernel), List.mem_of_getElem? (i := 799) (by decide +kernel)⟩
theorem lw_p35 : lw_okq (⟨"ToothStonesModel", "put", "(II)I"⟩, 28) := ⟨⟨by decide +kernel, by decide +kernel⟩, List.mem_of_getElem? (i := 617) (by decide +kernel), List.mem_of_getElem? (i := 802) (by decide +kernel), List.mem_of_getElem? (i := 803) (by decide +kernel)⟩
theorem lw_p36 : lw_okq (⟨"ToothStonesModel", "wayForBack", "()I"⟩, 28) := ⟨⟨by decide +kernel, by decide +kernel⟩, List.mem_of_getElem? (i := 617) (by decide +kernel), List.mem_of_getElem? (i := 806) (by decide +kernel), List.mem_of_getElem? (i := 807) (by decide +kernel)⟩
theorem lw_p37 : lw_okq (⟨"ToothStonesModel", "findWays", "(I)V"⟩, 28) := ⟨⟨by decide +kernel, by decide +kernel⟩, List.mem_of_getElem? (i := 617) (by decide +kernel), List.mem_of_getElem? (i := 810) (by decide +kernel), List.mem_of_getElem? (i := 811) (by decide +kernel)⟩
theorem lw_p38 : lw_okq (⟨"ToothStonesModel", "isLocked", "()Z"⟩, 28) := ⟨⟨by decide +kernel, by decide +kernel⟩, List.mem_of_getElem? (i := 617) (by decide +kernel), List.mem_of_getElem? (i := 814) (by decide +kernel), List.mem_of_getElem? (i := 815) (by decide +kernel)⟩
theorem lw_p39 : lw_okq (⟨"ToothStonesModel", "isOdd", "()Z"⟩, 28) := ⟨⟨by decide +kernel, by decide +kernel⟩, List.mem_of_getElem? (i := 617) (by decide +kernel), List.mem_of_getElem? (i := 818) (by decide +kernel), List.mem_of_getElem? (i := 819) (by decide +kernel)⟩
theorem lw_p40 : lw_okq (⟨"ToothStonesModel", "lockedAt", "()I"⟩, 28) := ⟨⟨by decide +kernel, by decide +kernel⟩, List.mem_of_getElem? (i := 617) (by decide +kernel), List.mem_of_getElem? (i := 822) (by decide +kernel), List.mem_of_getElem? (i := 823) (by decide +kernel)⟩
theorem lw_p41 : lw_okq (⟨"ToothStonesModel", "isPawled", "(I)Z"⟩, 28) := ⟨⟨by decide +kernel, by decide +kernel⟩, List.mem_of_getElem? (i := 617) (by decide +kernel), List.mem_of_getElem? (i := 826) (by decide +kernel), List.mem_of_getElem? (i := 827) (by decide +kernel)⟩
theorem lw_p42 : lw_okq (⟨"ToothStonesModel", "turnAll", "(I)V"⟩, 28) := ⟨⟨by decide +kernel, by decide +kernel⟩, List.mem_of_getElem? (i := 617) (by decide +kernel), List.mem_of_getElem? (i := 830) (by decide +kernel), List.mem_of_getElem? (i := 831) (by decide +kernel)⟩
theorem lw_p43 : lw_okq (⟨"ToothStonesModel", "isForwardLocked", "()Z"⟩, 28) := ⟨⟨by decide +kernel, by decide +kernel⟩, List.mem_of_getElem? (i := 617) (by decide +kernel), List.mem_of_getElem? (i := 860) (by decide +kernel), List.mem_of_getElem? (i := 861) (by decide +kernel)⟩
theorem lw_p44 : lw_okq (⟨"ToothStonesModel", "roundOf", "()I"⟩, 28) := ⟨⟨by decide +kernel, by decide +kernel⟩, List.mem_of_getElem? (i := 617) (by decide +kernel), List.mem_of_getElem? (i := 864) (by decide +kernel), List.mem_of_getElem? (i := 865) (by decide +kernel)⟩
theorem lw_p45 : lw_okq (⟨"ToothStonesModel", "isUpBehind", "(I)Z"⟩, 28) := ⟨⟨by decide +kernel, by decide +kernel⟩, List.mem_of_getElem? (i := 617) (by decide +kernel), List.mem_of_getElem? (i := 875) (by decide +kernel), List.mem_of_getElem? (i := 876) (by decide +kernel)⟩
theorem lw_p46 : lw_okq (⟨"ToothStonesModel", "teethTo", "(IIII)I"⟩, 28) := ⟨⟨by decide +kernel, by decide +kernel⟩, List.mem_of_getElem? (i := 617) (by decide +kernel), List.mem_of_getElem? (i := 879) (by decide +kernel), List.mem_of_getElem? (i := 880) (by decide +kernel)⟩
theorem lw_p47 : lw_okq (⟨"ToothStonesModel", "keepIn", "([I)V"⟩, 28) := ⟨⟨by decide +kernel, by decide +kernel⟩, List.mem_of_getElem? (i := 617) (by decide +kernel), List.mem_of_getElem? (i := 892) (by decide +kernel), List.mem_of_getElem? (i := 893) (by decide +kernel)⟩
def lw_privs_3 : List (MethodName × Nat) := [(⟨"ToothStonesModel", "upMarks", "()I"⟩, 28), (⟨"ToothStonesModel", "mayLay", "(II)Z"⟩, 28), (⟨"ToothStonesModel", "layOne", "(II)I"⟩, 28), (⟨"ToothStonesModel", "put", "(II)I"⟩, 28), (⟨"ToothStonesModel", "wayForBack", "()I"⟩, 28), (⟨"ToothStonesModel", "findWays", "(I)V"⟩, 28), (⟨"ToothStonesModel", "isLocked", "()Z"⟩, 28), (⟨"ToothStonesModel", "isOdd", "()Z"⟩, 28), (⟨"ToothStonesModel", "lockedAt", "()I"⟩, 28), (⟨"ToothStonesModel", "isPawled", "(I)Z"⟩, 28), (⟨"ToothStonesModel", "turnAll", "(I)V"⟩, 28), (⟨"ToothStonesModel", "isForwardLocked", "()Z"⟩, 28), (⟨"ToothStonesModel", "roundOf", "()I"⟩, 28), (⟨"ToothStonesModel", "isUpBehind", "(I)Z"⟩, 28), (⟨"ToothStonesModel", "teethTo", "(IIII)I"⟩, 28), (⟨"ToothStonesModel", "keepIn", "([I)V"⟩, 28)]
theorem lw_r3 : ∀ q ∈ lw_privs_3, lw_okq q := List.forall_mem_cons.mpr ⟨lw_p32, List.forall_mem_cons.mpr ⟨lw_p33, List.forall_mem_cons.mpr ⟨lw_p34, List.forall_mem_cons.mpr ⟨lw_p35, List.forall_mem_cons.mpr ⟨lw_p36, List.forall_mem_cons.mpr ⟨lw_p37, List.forall_mem_cons.mpr ⟨lw_p38, List.forall_mem_cons.mpr ⟨lw_p39, List.forall_mem_cons.mpr ⟨lw_p40, List.forall_mem_cons.mpr ⟨lw_p41, List.forall_mem_cons.mpr ⟨lw_p42, List.forall_mem_cons.mpr ⟨lw_p43, List.forall_mem_cons.mpr ⟨lw_p44, List.forall_mem_cons.mpr ⟨lw_p45, List.forall_mem_cons.mpr ⟨lw_p46, List.forall_mem_cons.mpr ⟨lw_p47, fun _ h => absurd h List.not_mem_nil⟩⟩⟩⟩⟩⟩⟩⟩⟩⟩⟩⟩⟩⟩⟩⟩
theorem lw_p48 : lw_okq (⟨"ToothStonesModel", "greatestOf", "(I)I"⟩, 28) := ⟨⟨by decide +kernel, by decide +kernel⟩, List.mem_of_getElem? (i := 617) (by decide +kernel), List.mem_of_getElem? (i := 896) (by decide +kernel), List.mem_of_getElem? (i := 897) (by decide +kernel)⟩
theorem lw_p49 : lw_okq (⟨"ToothStonesModel", "bringBack", "([II)V"⟩, 28) := ⟨⟨by decide +kernel, by decide +kernel⟩, List.mem_of_getElem? (i := 617) (by decide +kernel), List.mem_of_getElem? (i := 900) (by decide +kernel), List.mem_of_getElem? (i := 901) (by decide +kernel)⟩
theorem lw_p50 : lw_okq (⟨"ToothStonesModel", "laysOf", "(II)I"⟩, 28) := ⟨⟨by decide +kernel, by decide +kernel⟩, List.mem_of_getElem? (i := 617) (by decide +kernel), List.mem_of_getElem? (i := 909) (by decide +kernel), List.mem_of_getElem? (i := 910) (by decide +kernel)⟩
theorem lw_p51 : lw_okq (⟨"ToothStonesModel", "lacksRow", "(IIII)I"⟩, 28) := ⟨⟨by decide +kernel, by decide +kernel⟩, List.mem_of_getElem? (i := 617) (by decide +kernel), List.mem_of_getElem? (i := 944) (by decide +kernel), List.mem_of_getElem? (i := 945) (by decide +kernel)⟩
theorem lw_p52 : lw_okq (⟨"ToothStonesModel", "countOrders", "(II)I"⟩, 28) := ⟨⟨by decide +kernel, by decide +kernel⟩, List.mem_of_getElem? (i := 617) (by decide +kernel), List.mem_of_getElem? (i := 956) (by decide +kernel), List.mem_of_getElem? (i := 957) (by decide +kernel)⟩
theorem lw_p53 : lw_okq (⟨"ToothStonesModel", "brings", "(II)Z"⟩, 28) := ⟨⟨by decide +kernel, by decide +kernel⟩, List.mem_of_getElem? (i := 617) (by decide +kernel), List.mem_of_getElem? (i := 960) (by decide +kernel), List.mem_of_getElem? (i := 961) (by decide +kernel)⟩
theorem lw_p54 : lw_okq (⟨"ToothStonesModel", "nextOrder", "()Z"⟩, 28) := ⟨⟨by decide +kernel, by decide +kernel⟩, List.mem_of_getElem? (i := 617) (by decide +kernel), List.mem_of_getElem? (i := 964) (by decide +kernel), List.mem_of_getElem? (i := 965) (by decide +kernel)⟩
def lw_privs_4 : List (MethodName × Nat) := [(⟨"ToothStonesModel", "greatestOf", "(I)I"⟩, 28), (⟨"ToothStonesModel", "bringBack", "([II)V"⟩, 28), (⟨"ToothStonesModel", "laysOf", "(II)I"⟩, 28), (⟨"ToothStonesModel", "lacksRow", "(IIII)I"⟩, 28), (⟨"ToothStonesModel", "countOrders", "(II)I"⟩, 28), (⟨"ToothStonesModel", "brings", "(II)Z"⟩, 28), (⟨"ToothStonesModel", "nextOrder", "()Z"⟩, 28)]
theorem lw_r4 : ∀ q ∈ lw_privs_4, lw_okq q := List.forall_mem_cons.mpr ⟨lw_p48, List.forall_mem_cons.mpr ⟨lw_p49, List.forall_mem_cons.mpr ⟨lw_p50, List.forall_mem_cons.mpr ⟨lw_p51, List.forall_mem_cons.mpr ⟨lw_p52, List.forall_mem_cons.mpr ⟨lw_p53, List.forall_mem_cons.mpr ⟨lw_p54, fun _ h => absurd h List.not_mem_nil⟩⟩⟩⟩⟩⟩⟩
def lw_privs : List (MethodName × Nat) := lw_privs_1 ++ (lw_privs_2 ++ (lw_privs_3 ++ (lw_privs_4)))
def lw_tbl : List Cond := k2_sels lw_privs ++ tables_1
theorem lw_privs_ok : ∀ q ∈ lw_privs, lw_okq q := by
  show ∀ q ∈ lw_privs_1 ++ (lw_privs_2 ++ (lw_privs_3 ++ (lw_privs_4))), lw_okq q
  exact List.forall_mem_append.mpr ⟨lw_r1, List.forall_mem_append.mpr ⟨lw_r2, List.forall_mem_append.mpr ⟨lw_r3, lw_r4⟩⟩⟩

def RX0 : String := "ToothStones$Sheet"
def TX0 : u_T := fun k => match k with
  | 0 => ("ToothStones$Sheet", "items", "[I", true)
  | 1 => ("ToothStones$Sheet", "isHeld", "Z", false)
  | 2 => ("ToothStones$Sheet", "laneHeld", "I", false)
  | _ => ("ToothStones$Sheet", "size", "I", false)
def tyX0 : Nat → FieldType := fun k => match k with
  | 0 => .array .int
  | 1 => .boolean
  | 2 => .int
  | _ => .int
abbrev wsX00 : List Cond := u_ws RX0 TX0 4
theorem nmX0 : ∀ a, a < 4 → ∀ b, b < 4 → a ≠ b → (TX0 a).2.1 ≠ (TX0 b).2.1 := by decide +kernel
theorem tyX0_ok : ∀ k, k < 4 → parseFieldDescriptor (TX0 k).2.2.1 = some (tyX0 k) := by decide +kernel
abbrev cX0_init : ByteArray := prog_2_method_1_code
def yX0_init : MethodName := ⟨RX0, "<init>", "()V"⟩
abbrev cX0_isNothing : ByteArray := prog_2_method_2_code
def yX0_isNothing : MethodName := ⟨RX0, "isNothing", "()Z"⟩
abbrev cX0_holdNew : ByteArray := prog_2_method_3_code
def yX0_holdNew : MethodName := ⟨RX0, "holdNew", "(II)V"⟩
abbrev cX0_holdNothing : ByteArray := prog_2_method_4_code
def yX0_holdNothing : MethodName := ⟨RX0, "holdNothing", "()I"⟩
abbrev cX0_refusalOf : ByteArray := prog_2_method_5_code
def yX0_refusalOf : MethodName := ⟨RX0, "refusalOf", "(III)I"⟩
abbrev cX0_itemAt : ByteArray := prog_2_method_6_code
def yX0_itemAt : MethodName := ⟨RX0, "itemAt", "(I)I"⟩
abbrev cX0_setItem : ByteArray := prog_2_method_7_code
def yX0_setItem : MethodName := ⟨RX0, "setItem", "(II)V"⟩
def RX1 : String := "ToothStones$Table"
def TX1 : u_T := fun k => match k with
  | 0 => ("ToothStones$Table", "stoneCount", "I", false)
  | 1 => ("ToothStones$Table", "kinds", "[I", true)
  | 2 => ("ToothStones$Table", "teeth", "[I", true)
  | 3 => ("ToothStones$Table", "marks", "[I", true)
  | 4 => ("ToothStones$Table", "hands", "[I", true)
  | 5 => ("ToothStones$Table", "places", "[I", true)
  | 6 => ("ToothStones$Table", "fronts", "[I", true)
  | 7 => ("ToothStones$Table", "trainLength", "I", false)
  | 8 => ("ToothStones$Table", "train", "[I", true)
  | 9 => ("ToothStones$Table", "isRing", "Z", false)
  | 10 => ("ToothStones$Table", "scores", "[I", true)
  | _ => ("ToothStones$Table", "draw", "I", false)
def tyX1 : Nat → FieldType := fun k => match k with
  | 0 => .int
  | 1 => .array .int
  | 2 => .array .int
  | 3 => .array .int
  | 4 => .array .int
  | 5 => .array .int
  | 6 => .array .int
  | 7 => .int
  | 8 => .array .int
  | 9 => .boolean
  | 10 => .array .int
  | _ => .int
abbrev wsX10 : List Cond := u_ws RX1 TX1 12
theorem nmX1 : ∀ a, a < 12 → ∀ b, b < 12 → a ≠ b → (TX1 a).2.1 ≠ (TX1 b).2.1 := by decide +kernel
theorem tyX1_ok : ∀ k, k < 12 → parseFieldDescriptor (TX1 k).2.2.1 = some (tyX1 k) := by decide +kernel
abbrev cX1_init : ByteArray := prog_3_method_1_code
def yX1_init : MethodName := ⟨RX1, "<init>", "()V"⟩
abbrev cX1_copyFrom : ByteArray := prog_3_method_2_code
def yX1_copyFrom : MethodName := ⟨RX1, "copyFrom", "(LToothStones$Table;)V"⟩
abbrev cX1_clear : ByteArray := prog_3_method_3_code
def yX1_clear : MethodName := ⟨RX1, "clear", "()V"⟩
abbrev cX1_isFull : ByteArray := prog_3_method_4_code
def yX1_isFull : MethodName := ⟨RX1, "isFull", "()Z"⟩
abbrev cX1_addStone : ByteArray := prog_3_method_5_code
def yX1_addStone : MethodName := ⟨RX1, "addStone", "(III)I"⟩
abbrev cX1_setNotLaid : ByteArray := prog_3_method_6_code
def yX1_setNotLaid : MethodName := ⟨RX1, "setNotLaid", "(I)V"⟩
abbrev cX1_stoneCount : ByteArray := prog_3_method_7_code
def yX1_stoneCount : MethodName := ⟨RX1, "stoneCount", "()I"⟩
abbrev cX1_hasStone : ByteArray := prog_3_method_8_code
def yX1_hasStone : MethodName := ⟨RX1, "hasStone", "(I)Z"⟩
abbrev cX1_hasSet : ByteArray := prog_3_method_9_code
def yX1_hasSet : MethodName := ⟨RX1, "hasSet", "(I)Z"⟩
abbrev cX1_kindOf : ByteArray := prog_3_method_10_code
def yX1_kindOf : MethodName := ⟨RX1, "kindOf", "(I)I"⟩
abbrev cX1_teethOf : ByteArray := prog_3_method_11_code
def yX1_teethOf : MethodName := ⟨RX1, "teethOf", "(II)I"⟩
abbrev cX1_markOf : ByteArray := prog_3_method_12_code
def yX1_markOf : MethodName := ⟨RX1, "markOf", "(II)I"⟩
abbrev cX1_setMark : ByteArray := prog_3_method_13_code
def yX1_setMark : MethodName := ⟨RX1, "setMark", "(III)V"⟩
abbrev cX1_handOf : ByteArray := prog_3_method_14_code
def yX1_handOf : MethodName := ⟨RX1, "handOf", "(I)I"⟩
abbrev cX1_setHand : ByteArray := prog_3_method_15_code
def yX1_setHand : MethodName := ⟨RX1, "setHand", "(II)V"⟩
abbrev cX1_handSize : ByteArray := prog_3_method_16_code
def yX1_handSize : MethodName := ⟨RX1, "handSize", "(I)I"⟩
abbrev cX1_scoreOf : ByteArray := prog_3_method_17_code
def yX1_scoreOf : MethodName := ⟨RX1, "scoreOf", "(I)I"⟩
abbrev cX1_placeOf : ByteArray := prog_3_method_18_code
def yX1_placeOf : MethodName := ⟨RX1, "placeOf", "(I)I"⟩
abbrev cX1_isLaid : ByteArray := prog_3_method_19_code
def yX1_isLaid : MethodName := ⟨RX1, "isLaid", "(I)Z"⟩
abbrev cX1_frontOf : ByteArray := prog_3_method_20_code
def yX1_frontOf : MethodName := ⟨RX1, "frontOf", "(I)I"⟩
abbrev cX1_backOf : ByteArray := prog_3_method_21_code
def yX1_backOf : MethodName := ⟨RX1, "backOf", "(I)I"⟩
abbrev cX1_trainLength : ByteArray := prog_3_method_22_code
def yX1_trainLength : MethodName := ⟨RX1, "trainLength", "()I"⟩
abbrev cX1_stoneInTrain : ByteArray := prog_3_method_23_code
def yX1_stoneInTrain : MethodName := ⟨RX1, "stoneInTrain", "(I)I"⟩
abbrev cX1_isRing : ByteArray := prog_3_method_24_code
def yX1_isRing : MethodName := ⟨RX1, "isRing", "()Z"⟩
abbrev cX1_setRing : ByteArray := prog_3_method_25_code
def yX1_setRing : MethodName := ⟨RX1, "setRing", "(Z)V"⟩
abbrev cX1_drawIs : ByteArray := prog_3_method_26_code
def yX1_drawIs : MethodName := ⟨RX1, "drawIs", "()I"⟩
abbrev cX1_setDraw : ByteArray := prog_3_method_27_code
def yX1_setDraw : MethodName := ⟨RX1, "setDraw", "(I)V"⟩
abbrev cX1_lastTeeth : ByteArray := prog_3_method_28_code
def yX1_lastTeeth : MethodName := ⟨RX1, "lastTeeth", "()I"⟩
abbrev cX1_areNear : ByteArray := prog_3_method_29_code
def yX1_areNear : MethodName := ⟨RX1, "areNear", "(II)Z"⟩
abbrev cX1_fits : ByteArray := prog_3_method_30_code
def yX1_fits : MethodName := ⟨RX1, "fits", "(II)Z"⟩
abbrev cX1_mayLay : ByteArray := prog_3_method_31_code
def yX1_mayLay : MethodName := ⟨RX1, "mayLay", "(II)Z"⟩
abbrev cX1_canBeRing : ByteArray := prog_3_method_32_code
def yX1_canBeRing : MethodName := ⟨RX1, "canBeRing", "()Z"⟩
abbrev cX1_layDown : ByteArray := prog_3_method_33_code
def yX1_layDown : MethodName := ⟨RX1, "layDown", "(II)I"⟩
abbrev cX1_scoreNow : ByteArray := prog_3_method_34_code
def yX1_scoreNow : MethodName := ⟨RX1, "scoreNow", "()I"⟩
abbrev cX1_upMarks : ByteArray := prog_3_method_35_code
def yX1_upMarks : MethodName := ⟨RX1, "upMarks", "()I"⟩
abbrev cX1_liftLast : ByteArray := prog_3_method_36_code
def yX1_liftLast : MethodName := ⟨RX1, "liftLast", "(I)V"⟩
abbrev cX1_backWay : ByteArray := prog_3_method_37_code
def yX1_backWay : MethodName := ⟨RX1, "backWay", "(II)I"⟩
abbrev cX1_backWayAt : ByteArray := prog_3_method_38_code
def yX1_backWayAt : MethodName := ⟨RX1, "backWayAt", "(I)I"⟩
abbrev cX1_lastBackWay : ByteArray := prog_3_method_39_code
def yX1_lastBackWay : MethodName := ⟨RX1, "lastBackWay", "()I"⟩
abbrev cX1_lockOf : ByteArray := prog_3_method_40_code
def yX1_lockOf : MethodName := ⟨RX1, "lockOf", "(I)I"⟩
abbrev cX1_hasPawl : ByteArray := prog_3_method_41_code
def yX1_hasPawl : MethodName := ⟨RX1, "hasPawl", "(I)Z"⟩
abbrev cX1_turnTrain : ByteArray := prog_3_method_42_code
def yX1_turnTrain : MethodName := ⟨RX1, "turnTrain", "(I)V"⟩
abbrev cX1_turnWheel : ByteArray := prog_3_method_43_code
def yX1_turnWheel : MethodName := ⟨RX1, "turnWheel", "(III)V"⟩
abbrev cX1_remainder : ByteArray := prog_3_method_44_code
def yX1_remainder : MethodName := ⟨RX1, "remainder", "(II)I"⟩
abbrev cX1_teethAround : ByteArray := prog_3_method_45_code
def yX1_teethAround : MethodName := ⟨RX1, "teethAround", "()I"⟩
abbrev cX1_commonMultiple : ByteArray := prog_3_method_46_code
def yX1_commonMultiple : MethodName := ⟨RX1, "commonMultiple", "(II)I"⟩
abbrev cX1_teethUntilUp : ByteArray := prog_3_method_47_code
def yX1_teethUntilUp : MethodName := ⟨RX1, "teethUntilUp", "()I"⟩
abbrev cX1_firstUp : ByteArray := prog_3_method_48_code
def yX1_firstUp : MethodName := ⟨RX1, "firstUp", "(IIIII)I"⟩
abbrev cX1_teethUntilPoint : ByteArray := prog_3_method_49_code
def yX1_teethUntilPoint : MethodName := ⟨RX1, "teethUntilPoint", "(II)I"⟩
abbrev cX1_layDrawn : ByteArray := prog_3_method_50_code
def yX1_layDrawn : MethodName := ⟨RX1, "layDrawn", "(I)Z"⟩
abbrev cX1_countLays : ByteArray := prog_3_method_51_code
def yX1_countLays : MethodName := ⟨RX1, "countLays", "(I)I"⟩
def RX2 : String := "ToothStones$Tape"
def TX2 : u_T := fun k => match k with
  | 0 => ("ToothStones$Tape", "bytes", "[I", true)
  | 1 => ("ToothStones$Tape", "length", "I", false)
  | _ => ("ToothStones$Tape", "place", "I", false)
def tyX2 : Nat → FieldType := fun k => match k with
  | 0 => .array .int
  | 1 => .int
  | _ => .int
abbrev wsX20 : List Cond := u_ws RX2 TX2 3
theorem nmX2 : ∀ a, a < 3 → ∀ b, b < 3 → a ≠ b → (TX2 a).2.1 ≠ (TX2 b).2.1 := by decide +kernel
theorem tyX2_ok : ∀ k, k < 3 → parseFieldDescriptor (TX2 k).2.2.1 = some (tyX2 k) := by decide +kernel
abbrev cX2_init : ByteArray := prog_4_method_1_code
def yX2_init : MethodName := ⟨RX2, "<init>", "()V"⟩
abbrev cX2_length : ByteArray := prog_4_method_2_code
def yX2_length : MethodName := ⟨RX2, "length", "()I"⟩
abbrev cX2_addByte : ByteArray := prog_4_method_3_code
def yX2_addByte : MethodName := ⟨RX2, "addByte", "(I)V"⟩
abbrev cX2_empty : ByteArray := prog_4_method_4_code
def yX2_empty : MethodName := ⟨RX2, "empty", "()V"⟩
abbrev cX2_readTo : ByteArray := prog_4_method_5_code
def yX2_readTo : MethodName := ⟨RX2, "readTo", "(LToothStones$Table;)I"⟩
abbrev cX2_stepOn : ByteArray := prog_4_method_6_code
def yX2_stepOn : MethodName := ⟨RX2, "stepOn", "()V"⟩
abbrev cX2_readStone : ByteArray := prog_4_method_7_code
def yX2_readStone : MethodName := ⟨RX2, "readStone", "(LToothStones$Table;)Z"⟩
abbrev cX2_readMark : ByteArray := prog_4_method_8_code
def yX2_readMark : MethodName := ⟨RX2, "readMark", "(LToothStones$Table;II)Z"⟩
abbrev cX2_readKind : ByteArray := prog_4_method_9_code
def yX2_readKind : MethodName := ⟨RX2, "readKind", "()I"⟩
abbrev cX2_readDigit : ByteArray := prog_4_method_10_code
def yX2_readDigit : MethodName := ⟨RX2, "readDigit", "(II)I"⟩
abbrev cX2_readSign : ByteArray := prog_4_method_11_code
def yX2_readSign : MethodName := ⟨RX2, "readSign", "(C)Z"⟩
def RX3 : String := "ToothStones"
def TX3 : u_T := fun k => match k with
  | 0 => ("ToothStones", "table", "LToothStones$Table;", true)
  | 1 => ("ToothStones", "kept", "LToothStones$Table;", true)
  | 2 => ("ToothStones", "isKept", "Z", false)
  | 3 => ("ToothStones", "trial", "LToothStones$Table;", true)
  | 4 => ("ToothStones", "answerTrial", "LToothStones$Table;", true)
  | 5 => ("ToothStones", "tape", "LToothStones$Tape;", true)
  | 6 => ("ToothStones", "sheets", "[LToothStones$Sheet;", true)
  | 7 => ("ToothStones", "order", "[I", true)
  | _ => ("ToothStones", "firstOrder", "[I", true)
def tyX3 : Nat → FieldType := fun k => match k with
  | 0 => .object "ToothStones$Table"
  | 1 => .object "ToothStones$Table"
  | 2 => .boolean
  | 3 => .object "ToothStones$Table"
  | 4 => .object "ToothStones$Table"
  | 5 => .object "ToothStones$Tape"
  | 6 => .array (.object "ToothStones$Sheet")
  | 7 => .array .int
  | _ => .array .int
abbrev wsX30 : List Cond := u_ws RX3 TX3 9
theorem nmX3 : ∀ a, a < 9 → ∀ b, b < 9 → a ≠ b → (TX3 a).2.1 ≠ (TX3 b).2.1 := by decide +kernel
theorem tyX3_ok : ∀ k, k < 9 → parseFieldDescriptor (TX3 k).2.2.1 = some (tyX3 k) := by decide +kernel
abbrev cX3_init : ByteArray := prog_1_method_1_code
def yX3_init : MethodName := ⟨RX3, "<init>", "()V"⟩
abbrev cX3_stone : ByteArray := prog_1_method_2_code
def yX3_stone : MethodName := ⟨RX3, "stone", "(III)I"⟩
abbrev cX3_mark : ByteArray := prog_1_method_3_code
def yX3_mark : MethodName := ⟨RX3, "mark", "(III)I"⟩
abbrev cX3_told : ByteArray := prog_1_method_4_code
def yX3_told : MethodName := ⟨RX3, "told", "(II)I"⟩
abbrev cX3_deal : ByteArray := prog_1_method_5_code
def yX3_deal : MethodName := ⟨RX3, "deal", "(II)I"⟩
abbrev cX3_type : ByteArray := prog_1_method_6_code
def yX3_type : MethodName := ⟨RX3, "type", "(JI)I"⟩
abbrev cX3_stones : ByteArray := prog_1_method_7_code
def yX3_stones : MethodName := ⟨RX3, "stones", "()I"⟩
abbrev cX3_count : ByteArray := prog_1_method_8_code
def yX3_count : MethodName := ⟨RX3, "count", "(I)I"⟩
abbrev cX3_may : ByteArray := prog_1_method_9_code
def yX3_may : MethodName := ⟨RX3, "may", "(II)I"⟩
abbrev cX3_lay : ByteArray := prog_1_method_10_code
def yX3_lay : MethodName := ⟨RX3, "lay", "(II)I"⟩
abbrev cX3_take : ByteArray := prog_1_method_11_code
def yX3_take : MethodName := ⟨RX3, "take", "(I)I"⟩
abbrev cX3_shut : ByteArray := prog_1_method_12_code
def yX3_shut : MethodName := ⟨RX3, "shut", "(Z)I"⟩
abbrev cX3_locked : ByteArray := prog_1_method_13_code
def yX3_locked : MethodName := ⟨RX3, "locked", "()I"⟩
abbrev cX3_crank : ByteArray := prog_1_method_14_code
def yX3_crank : MethodName := ⟨RX3, "crank", "(I)I"⟩
abbrev cX3_around : ByteArray := prog_1_method_15_code
def yX3_around : MethodName := ⟨RX3, "around", "()I"⟩
abbrev cX3_up : ByteArray := prog_1_method_16_code
def yX3_up : MethodName := ⟨RX3, "up", "()I"⟩
abbrev cX3_best : ByteArray := prog_1_method_17_code
def yX3_best : MethodName := ⟨RX3, "best", "(II)I"⟩
abbrev cX3_point : ByteArray := prog_1_method_18_code
def yX3_point : MethodName := ⟨RX3, "point", "(II)I"⟩
abbrev cX3_match : ByteArray := prog_1_method_19_code
def yX3_match : MethodName := ⟨RX3, "match", "(I)I"⟩
abbrev cX3_seed : ByteArray := prog_1_method_20_code
def yX3_seed : MethodName := ⟨RX3, "seed", "(I)I"⟩
abbrev cX3_image : ByteArray := prog_1_method_21_code
def yX3_image : MethodName := ⟨RX3, "image", "()I"⟩
abbrev cX3_restore : ByteArray := prog_1_method_22_code
def yX3_restore : MethodName := ⟨RX3, "restore", "()I"⟩
abbrev cX3_judged : ByteArray := prog_1_method_23_code
def yX3_judged : MethodName := ⟨RX3, "judged", "(IIII)I"⟩
abbrev cX3_orders : ByteArray := prog_1_method_24_code
def yX3_orders : MethodName := ⟨RX3, "orders", "(IIIII)I"⟩
abbrev cX3_sheet : ByteArray := prog_1_method_25_code
def yX3_sheet : MethodName := ⟨RX3, "sheet", "(III)I"⟩
abbrev cX3_drop : ByteArray := prog_1_method_26_code
def yX3_drop : MethodName := ⟨RX3, "drop", "(I)I"⟩
abbrev cX3_item : ByteArray := prog_1_method_27_code
def yX3_item : MethodName := ⟨RX3, "item", "(IIII)I"⟩
abbrev cX3_film : ByteArray := prog_1_method_28_code
def yX3_film : MethodName := ⟨RX3, "film", "(III)I"⟩
abbrev cX3_isWithin : ByteArray := prog_1_method_29_code
def yX3_isWithin : MethodName := ⟨RX3, "isWithin", "(III)Z"⟩
abbrev cX3_isTeeth : ByteArray := prog_1_method_30_code
def yX3_isTeeth : MethodName := ⟨RX3, "isTeeth", "(I)Z"⟩
abbrev cX3_isWheel : ByteArray := prog_1_method_31_code
def yX3_isWheel : MethodName := ⟨RX3, "isWheel", "(I)Z"⟩
abbrev cX3_isHand : ByteArray := prog_1_method_32_code
def yX3_isHand : MethodName := ⟨RX3, "isHand", "(I)Z"⟩
abbrev cX3_isLane : ByteArray := prog_1_method_33_code
def yX3_isLane : MethodName := ⟨RX3, "isLane", "(I)Z"⟩
abbrev cX3_lowByte : ByteArray := prog_1_method_34_code
def yX3_lowByte : MethodName := ⟨RX3, "lowByte", "(JI)I"⟩
abbrev cX3_sheetAt : ByteArray := prog_1_method_35_code
def yX3_sheetAt : MethodName := ⟨RX3, "sheetAt", "(I)LToothStones$Sheet;"⟩
abbrev cX3_crankRefusal : ByteArray := prog_1_method_36_code
def yX3_crankRefusal : MethodName := ⟨RX3, "crankRefusal", "()I"⟩
abbrev cX3_worthOf : ByteArray := prog_1_method_37_code
def yX3_worthOf : MethodName := ⟨RX3, "worthOf", "(II)I"⟩
abbrev cX3_firstThatMayNot : ByteArray := prog_1_method_38_code
def yX3_firstThatMayNot : MethodName := ⟨RX3, "firstThatMayNot", "(LToothStones$Sheet;II)I"⟩
abbrev cX3_countOrders : ByteArray := prog_1_method_39_code
def yX3_countOrders : MethodName := ⟨RX3, "countOrders", "(IILToothStones$Sheet;I)I"⟩
abbrev cX3_startOrder : ByteArray := prog_1_method_40_code
def yX3_startOrder : MethodName := ⟨RX3, "startOrder", "(I)V"⟩
abbrev cX3_nextOrder : ByteArray := prog_1_method_41_code
def yX3_nextOrder : MethodName := ⟨RX3, "nextOrder", "(I)Z"⟩
abbrev cX3_swapInOrder : ByteArray := prog_1_method_42_code
def yX3_swapInOrder : MethodName := ⟨RX3, "swapInOrder", "(II)V"⟩
abbrev cX3_bringsMarks : ByteArray := prog_1_method_43_code
def yX3_bringsMarks : MethodName := ⟨RX3, "bringsMarks", "(IILToothStones$Sheet;I)Z"⟩
abbrev cX3_isIn : ByteArray := prog_1_method_44_code
def yX3_isIn : MethodName := ⟨RX3, "isIn", "(II)Z"⟩
abbrev cX3_at : ByteArray := prog_1_method_45_code
def yX3_at : MethodName := ⟨RX3, "at", "([II)I"⟩
abbrev cX3_put : ByteArray := prog_1_method_46_code
def yX3_put : MethodName := ⟨RX3, "put", "([III)V"⟩
abbrev cX3_copyRow : ByteArray := prog_1_method_47_code
def yX3_copyRow : MethodName := ⟨RX3, "copyRow", "([I[I)V"⟩
def RX4 : String := "ToothStonesModel"
def TX4 : u_T := fun k => match k with
  | 0 => ("ToothStonesModel", "z", "[I", true)
  | 1 => ("ToothStonesModel", "many", "I", false)
  | 2 => ("ToothStonesModel", "train", "[I", true)
  | 3 => ("ToothStonesModel", "fronts", "[I", true)
  | 4 => ("ToothStonesModel", "size", "I", false)
  | 5 => ("ToothStonesModel", "scores", "[I", true)
  | 6 => ("ToothStonesModel", "ring", "Z", false)
  | 7 => ("ToothStonesModel", "drawn", "I", false)
  | 8 => ("ToothStonesModel", "tape", "[I", true)
  | 9 => ("ToothStonesModel", "taped", "I", false)
  | 10 => ("ToothStonesModel", "place", "I", false)
  | 11 => ("ToothStonesModel", "reads", "I", false)
  | 12 => ("ToothStonesModel", "read", "[I", true)
  | 13 => ("ToothStonesModel", "frontWays", "[I", true)
  | 14 => ("ToothStonesModel", "backWays", "[I", true)
  | 15 => ("ToothStonesModel", "had", "[I", true)
  | 16 => ("ToothStonesModel", "hadDeep", "[I", true)
  | 17 => ("ToothStonesModel", "isKept", "Z", false)
  | 18 => ("ToothStonesModel", "kept", "[I", true)
  | 19 => ("ToothStonesModel", "keptTrain", "[I", true)
  | 20 => ("ToothStonesModel", "keptCounts", "[I", true)
  | 21 => ("ToothStonesModel", "lanes", "[I", true)
  | 22 => ("ToothStonesModel", "rowSizes", "[I", true)
  | 23 => ("ToothStonesModel", "items", "[I", true)
  | 24 => ("ToothStonesModel", "some", "[I", true)
  | 25 => ("ToothStonesModel", "first", "[I", true)
  | 26 => ("ToothStonesModel", "hadTrain", "[I", true)
  | _ => ("ToothStonesModel", "someMany", "I", false)
def tyX4 : Nat → FieldType := fun k => match k with
  | 0 => .array .int
  | 1 => .int
  | 2 => .array .int
  | 3 => .array .int
  | 4 => .int
  | 5 => .array .int
  | 6 => .boolean
  | 7 => .int
  | 8 => .array .int
  | 9 => .int
  | 10 => .int
  | 11 => .int
  | 12 => .array .int
  | 13 => .array .int
  | 14 => .array .int
  | 15 => .array .int
  | 16 => .array .int
  | 17 => .boolean
  | 18 => .array .int
  | 19 => .array .int
  | 20 => .array .int
  | 21 => .array .int
  | 22 => .array .int
  | 23 => .array .int
  | 24 => .array .int
  | 25 => .array .int
  | 26 => .array .int
  | _ => .int
abbrev wsX40 : List Cond := u_ws RX4 TX4 28
theorem nmX4 : ∀ a, a < 28 → ∀ b, b < 28 → a ≠ b → (TX4 a).2.1 ≠ (TX4 b).2.1 := by decide +kernel
theorem tyX4_ok : ∀ k, k < 28 → parseFieldDescriptor (TX4 k).2.2.1 = some (tyX4 k) := by decide +kernel
abbrev cX4_init : ByteArray := prog_6_method_1_code
def yX4_init : MethodName := ⟨RX4, "<init>", "()V"⟩
abbrev cX4_in : ByteArray := prog_6_method_2_code
def yX4_in : MethodName := ⟨RX4, "in", "(JJJ)Z"⟩
abbrev cX4_isStone : ByteArray := prog_6_method_3_code
def yX4_isStone : MethodName := ⟨RX4, "isStone", "(I)Z"⟩
abbrev cX4_teeth : ByteArray := prog_6_method_4_code
def yX4_teeth : MethodName := ⟨RX4, "teeth", "(II)I"⟩
abbrev cX4_add : ByteArray := prog_6_method_5_code
def yX4_add : MethodName := ⟨RX4, "add", "(IIIII)V"⟩
abbrev cX4_stone : ByteArray := prog_6_method_6_code
def yX4_stone : MethodName := ⟨RX4, "stone", "(III)I"⟩
abbrev cX4_mark : ByteArray := prog_6_method_7_code
def yX4_mark : MethodName := ⟨RX4, "mark", "(III)I"⟩
abbrev cX4_placeOf : ByteArray := prog_6_method_8_code
def yX4_placeOf : MethodName := ⟨RX4, "placeOf", "(I)I"⟩
abbrev cX4_told : ByteArray := prog_6_method_9_code
def yX4_told : MethodName := ⟨RX4, "told", "(II)I"⟩
abbrev cX4_deal : ByteArray := prog_6_method_10_code
def yX4_deal : MethodName := ⟨RX4, "deal", "(II)I"⟩
abbrev cX4_type : ByteArray := prog_6_method_11_code
def yX4_type : MethodName := ⟨RX4, "type", "(JI)I"⟩
abbrev cX4_nextByte : ByteArray := prog_6_method_12_code
def yX4_nextByte : MethodName := ⟨RX4, "nextByte", "()I"⟩
abbrev cX4_readDigit : ByteArray := prog_6_method_13_code
def yX4_readDigit : MethodName := ⟨RX4, "readDigit", "(III)Z"⟩
abbrev cX4_readStone : ByteArray := prog_6_method_14_code
def yX4_readStone : MethodName := ⟨RX4, "readStone", "(I)Z"⟩
abbrev cX4_readStones : ByteArray := prog_6_method_15_code
def yX4_readStones : MethodName := ⟨RX4, "readStones", "()Z"⟩
abbrev cX4_stones : ByteArray := prog_6_method_16_code
def yX4_stones : MethodName := ⟨RX4, "stones", "()I"⟩
abbrev cX4_isPawled : ByteArray := prog_6_method_17_code
def yX4_isPawled : MethodName := ⟨RX4, "isPawled", "(I)Z"⟩
abbrev cX4_findWays : ByteArray := prog_6_method_18_code
def yX4_findWays : MethodName := ⟨RX4, "findWays", "(I)V"⟩
abbrev cX4_lockedAt : ByteArray := prog_6_method_19_code
def yX4_lockedAt : MethodName := ⟨RX4, "lockedAt", "()I"⟩
abbrev cX4_isOdd : ByteArray := prog_6_method_20_code
def yX4_isOdd : MethodName := ⟨RX4, "isOdd", "()Z"⟩
abbrev cX4_isLocked : ByteArray := prog_6_method_21_code
def yX4_isLocked : MethodName := ⟨RX4, "isLocked", "()Z"⟩
abbrev cX4_wayForBack : ByteArray := prog_6_method_22_code
def yX4_wayForBack : MethodName := ⟨RX4, "wayForBack", "()I"⟩
abbrev cX4_round : ByteArray := prog_6_method_23_code
def yX4_round : MethodName := ⟨RX4, "round", "(III)I"⟩
abbrev cX4_turnAll : ByteArray := prog_6_method_24_code
def yX4_turnAll : MethodName := ⟨RX4, "turnAll", "(I)V"⟩
abbrev cX4_upMarks : ByteArray := prog_6_method_25_code
def yX4_upMarks : MethodName := ⟨RX4, "upMarks", "()I"⟩
abbrev cX4_count : ByteArray := prog_6_method_26_code
def yX4_count : MethodName := ⟨RX4, "count", "(I)I"⟩
abbrev cX4_mesh : ByteArray := prog_6_method_27_code
def yX4_mesh : MethodName := ⟨RX4, "mesh", "(II)Z"⟩
abbrev cX4_mayLay : ByteArray := prog_6_method_28_code
def yX4_mayLay : MethodName := ⟨RX4, "mayLay", "(II)Z"⟩
abbrev cX4_may : ByteArray := prog_6_method_29_code
def yX4_may : MethodName := ⟨RX4, "may", "(II)I"⟩
abbrev cX4_put : ByteArray := prog_6_method_30_code
def yX4_put : MethodName := ⟨RX4, "put", "(II)I"⟩
abbrev cX4_layOne : ByteArray := prog_6_method_31_code
def yX4_layOne : MethodName := ⟨RX4, "layOne", "(II)I"⟩
abbrev cX4_lay : ByteArray := prog_6_method_32_code
def yX4_lay : MethodName := ⟨RX4, "lay", "(II)I"⟩
abbrev cX4_take : ByteArray := prog_6_method_33_code
def yX4_take : MethodName := ⟨RX4, "take", "(I)I"⟩
abbrev cX4_shut : ByteArray := prog_6_method_34_code
def yX4_shut : MethodName := ⟨RX4, "shut", "(Z)I"⟩
abbrev cX4_locked : ByteArray := prog_6_method_35_code
def yX4_locked : MethodName := ⟨RX4, "locked", "()I"⟩
abbrev cX4_crank : ByteArray := prog_6_method_36_code
def yX4_crank : MethodName := ⟨RX4, "crank", "(I)I"⟩
abbrev cX4_isForwardLocked : ByteArray := prog_6_method_37_code
def yX4_isForwardLocked : MethodName := ⟨RX4, "isForwardLocked", "()Z"⟩
abbrev cX4_common : ByteArray := prog_6_method_38_code
def yX4_common : MethodName := ⟨RX4, "common", "(II)I"⟩
abbrev cX4_roundOf : ByteArray := prog_6_method_39_code
def yX4_roundOf : MethodName := ⟨RX4, "roundOf", "()I"⟩
abbrev cX4_around : ByteArray := prog_6_method_40_code
def yX4_around : MethodName := ⟨RX4, "around", "()I"⟩
abbrev cX4_teethTo : ByteArray := prog_6_method_41_code
def yX4_teethTo : MethodName := ⟨RX4, "teethTo", "(IIII)I"⟩
abbrev cX4_isUpBehind : ByteArray := prog_6_method_42_code
def yX4_isUpBehind : MethodName := ⟨RX4, "isUpBehind", "(I)Z"⟩
abbrev cX4_up : ByteArray := prog_6_method_43_code
def yX4_up : MethodName := ⟨RX4, "up", "()I"⟩
abbrev cX4_point : ByteArray := prog_6_method_44_code
def yX4_point : MethodName := ⟨RX4, "point", "(II)I"⟩
abbrev cX4_keepIn : ByteArray := prog_6_method_45_code
def yX4_keepIn : MethodName := ⟨RX4, "keepIn", "([I)V"⟩
abbrev cX4_bringBack : ByteArray := prog_6_method_46_code
def yX4_bringBack : MethodName := ⟨RX4, "bringBack", "([II)V"⟩
abbrev cX4_greatestOf : ByteArray := prog_6_method_47_code
def yX4_greatestOf : MethodName := ⟨RX4, "greatestOf", "(I)I"⟩
abbrev cX4_best : ByteArray := prog_6_method_48_code
def yX4_best : MethodName := ⟨RX4, "best", "(II)I"⟩
abbrev cX4_laysOf : ByteArray := prog_6_method_49_code
def yX4_laysOf : MethodName := ⟨RX4, "laysOf", "(II)I"⟩
abbrev cX4_match : ByteArray := prog_6_method_50_code
def yX4_match : MethodName := ⟨RX4, "match", "(I)I"⟩
abbrev cX4_seed : ByteArray := prog_6_method_51_code
def yX4_seed : MethodName := ⟨RX4, "seed", "(I)I"⟩
abbrev cX4_image : ByteArray := prog_6_method_52_code
def yX4_image : MethodName := ⟨RX4, "image", "()I"⟩
abbrev cX4_restore : ByteArray := prog_6_method_53_code
def yX4_restore : MethodName := ⟨RX4, "restore", "()I"⟩
abbrev cX4_isSheet : ByteArray := prog_6_method_54_code
def yX4_isSheet : MethodName := ⟨RX4, "isSheet", "(II)Z"⟩
abbrev cX4_sheet : ByteArray := prog_6_method_55_code
def yX4_sheet : MethodName := ⟨RX4, "sheet", "(III)I"⟩
abbrev cX4_drop : ByteArray := prog_6_method_56_code
def yX4_drop : MethodName := ⟨RX4, "drop", "(I)I"⟩
abbrev cX4_lacksRow : ByteArray := prog_6_method_57_code
def yX4_lacksRow : MethodName := ⟨RX4, "lacksRow", "(IIII)I"⟩
abbrev cX4_item : ByteArray := prog_6_method_58_code
def yX4_item : MethodName := ⟨RX4, "item", "(IIII)I"⟩
abbrev cX4_judged : ByteArray := prog_6_method_59_code
def yX4_judged : MethodName := ⟨RX4, "judged", "(IIII)I"⟩
abbrev cX4_nextOrder : ByteArray := prog_6_method_60_code
def yX4_nextOrder : MethodName := ⟨RX4, "nextOrder", "()Z"⟩
abbrev cX4_brings : ByteArray := prog_6_method_61_code
def yX4_brings : MethodName := ⟨RX4, "brings", "(II)Z"⟩
abbrev cX4_countOrders : ByteArray := prog_6_method_62_code
def yX4_countOrders : MethodName := ⟨RX4, "countOrders", "(II)I"⟩
abbrev cX4_orders : ByteArray := prog_6_method_63_code
def yX4_orders : MethodName := ⟨RX4, "orders", "(IIIII)I"⟩
abbrev cX4_film : ByteArray := prog_6_method_64_code
def yX4_film : MethodName := ⟨RX4, "film", "(III)I"⟩
def RJ6 : String := "java/lang/Integer"
def TJ6 : u_T := fun k => match k with
  | _ => ("", "", "", false)
def tyJ6 : Nat → FieldType := fun k => match k with
  | _ => .int
abbrev wsJ60 : List Cond := u_ws RJ6 TJ6 0
theorem nmJ6 : ∀ a, a < 0 → ∀ b, b < 0 → a ≠ b → (TJ6 a).2.1 ≠ (TJ6 b).2.1 := by decide +kernel
theorem tyJ6_ok : ∀ k, k < 0 → parseFieldDescriptor (TJ6 k).2.2.1 = some (tyJ6 k) := by decide +kernel
abbrev cJ6_bitCount_0f7a4 : ByteArray := prog_7_method_49_code
def yJ6_bitCount_0f7a4 : MethodName := ⟨RJ6, "bitCount", "(I)I"⟩
def RJ9 : String := "java/lang/Math"
def TJ9 : u_T := fun k => match k with
  | _ => ("", "", "", false)
def tyJ9 : Nat → FieldType := fun k => match k with
  | _ => .int
abbrev wsJ90 : List Cond := u_ws RJ9 TJ9 0
theorem nmJ9 : ∀ a, a < 0 → ∀ b, b < 0 → a ≠ b → (TJ9 a).2.1 ≠ (TJ9 b).2.1 := by decide +kernel
theorem tyJ9_ok : ∀ k, k < 0 → parseFieldDescriptor (TJ9 k).2.2.1 = some (tyJ9 k) := by decide +kernel
abbrev cJ9_floorMod_7cf53 : ByteArray := prog_8_method_50_code
def yJ9_floorMod_7cf53 : MethodName := ⟨RJ9, "floorMod", "(II)I"⟩
abbrev cJ9_abs_0f7a4 : ByteArray := prog_8_method_59_code
def yJ9_abs_0f7a4 : MethodName := ⟨RJ9, "abs", "(I)I"⟩
abbrev cJ9_max_7cf53 : ByteArray := prog_8_method_65_code
def yJ9_max_7cf53 : MethodName := ⟨RJ9, "max", "(II)I"⟩
abbrev cJ9_min_7cf53 : ByteArray := prog_8_method_69_code
def yJ9_min_7cf53 : MethodName := ⟨RJ9, "min", "(II)I"⟩
def RJ10 : String := "java/lang/System"
def TJ10 : u_T := fun k => match k with
  | _ => ("", "", "", false)
def tyJ10 : Nat → FieldType := fun k => match k with
  | _ => .int
abbrev wsJ100 : List Cond := u_ws RJ10 TJ10 0
theorem nmJ10 : ∀ a, a < 0 → ∀ b, b < 0 → a ≠ b → (TJ10 a).2.1 ≠ (TJ10 b).2.1 := by decide +kernel
theorem tyJ10_ok : ∀ k, k < 0 → parseFieldDescriptor (TJ10 k).2.2.1 = some (tyJ10 k) := by decide +kernel
def RL : String := "ToothStonesLaw"
abbrev cL_law : ByteArray := code
def yL_law : MethodName := ⟨RL, "law", "([I)Z"⟩
abbrev vwCl : List vw_C := [(RX0, TX0, 4), (RX1, TX1, 12), (RX2, TX2, 3), (RX3, TX3, 9), (RX4, TX4, 28)]
end
section
/-! the code of the methods: a row an instruction (its place in the bytes, itself, its links) -/
abbrev zM := Nat → Nat → Int32
abbrev zE := Nat ⊕ ((Nat × List (Option Nat)) ⊕ List Nat)
abbrev zR := Nat × Instr × List Nat
def zk_0 : List zR := [(0, .aload_n 0, []), (1, .getfield 15, [0, 1, 140]), (4, .ifCond .ne 7, [5]), (7, .iconst 1, []), (8, .goto 4, [6]), (11, .iconst 0, []), (12, .ireturn, [])]
def zk_1 : List zR := [(0, .aload_n 0, []), (1, .iconst 1, []), (2, .putfield 15, [0, 1, 140]), (5, .aload_n 0, []), (6, .iload_n 1, []), (7, .putfield 19, [0, 2, 141]), (10, .aload_n 0, []), (11, .iload_n 2, []), (12, .putfield 23, [0, 3, 142]), (15, .iconst 0, []), (16, .istore_n 3, []), (17, .iload_n 3, []), (18, .bipush 24, []), (20, .if_icmp .ge 18, [21]), (23, .aload_n 0, []), (24, .getfield 9, [0, 0, 139]), (27, .iload_n 3, []), (28, .iconst 0, []), (29, .invokestatic 26, [110, 645, 199]), (32, .iinc 3 1, []), (35, .goto (-18), [11]), (38, .return_, [])]
def zk_2 : List zR := [(0, .aload_n 0, []), (1, .iconst 0, []), (2, .putfield 15, [0, 1, 140]), (5, .aload_n 0, []), (6, .getfield 23, [0, 3, 142]), (9, .ireturn, [])]
def zk_3 : List zR := [(0, .aload_n 0, []), (1, .getfield 15, [0, 1, 140]), (4, .ifCond .ne 6, [5]), (7, .bipush (-11), []), (9, .ireturn, []), (10, .iload_n 1, []), (11, .aload_n 0, []), (12, .getfield 19, [0, 2, 141]), (15, .if_icmp .eq 6, [11]), (18, .bipush (-12), []), (20, .ireturn, []), (21, .iload_n 2, []), (22, .ifCond .lt 13, [19]), (25, .iload_n 2, []), (26, .aload_n 0, []), (27, .getfield 23, [0, 3, 142]), (30, .iload_n 3, []), (31, .isub, []), (32, .if_icmp .le 8, [21]), (35, .bipush (-13), []), (37, .goto 4, [22]), (40, .iconst 0, []), (41, .ireturn, [])]
def zk_4 : List zR := [(0, .aload_n 0, []), (1, .getfield 9, [0, 0, 139]), (4, .iload_n 1, []), (5, .invokestatic 30, [109, 592, 225]), (8, .ireturn, [])]
def zk_5 : List zR := [(0, .aload_n 0, []), (1, .getfield 9, [0, 0, 139]), (4, .iload_n 1, []), (5, .aload_n 0, []), (6, .getfield 19, [0, 2, 141]), (9, .ifCond .ne 8, [9]), (12, .iload_n 2, []), (13, .i2b, []), (14, .goto 17, [17]), (17, .aload_n 0, []), (18, .getfield 19, [0, 2, 141]), (21, .iconst 1, []), (22, .if_icmp .ne 8, [16]), (25, .iload_n 2, []), (26, .i2s, []), (27, .goto 4, [17]), (30, .iload_n 2, []), (31, .invokestatic 26, [110, 645, 199]), (34, .return_, [])]
def zk_6 : List zR := [(0, .aload_n 0, []), (1, .aload_n 1, []), (2, .getfield 40, [1, 0, 78]), (5, .putfield 40, [1, 0, 78]), (8, .aload_n 1, []), (9, .getfield 9, [1, 1, 79]), (12, .aload_n 0, []), (13, .getfield 9, [1, 1, 79]), (16, .invokestatic 43, [111, 289, 290]), (19, .aload_n 1, []), (20, .getfield 15, [1, 2, 80]), (23, .aload_n 0, []), (24, .getfield 15, [1, 2, 80]), (27, .invokestatic 43, [111, 289, 290]), (30, .aload_n 1, []), (31, .getfield 18, [1, 3, 81]), (34, .aload_n 0, []), (35, .getfield 18, [1, 3, 81]), (38, .invokestatic 43, [111, 289, 290]), (41, .aload_n 1, []), (42, .getfield 21, [1, 4, 82]), (45, .aload_n 0, []), (46, .getfield 21, [1, 4, 82]), (49, .invokestatic 43, [111, 289, 290]), (52, .aload_n 1, []), (53, .getfield 24, [1, 5, 83]), (56, .aload_n 0, []), (57, .getfield 24, [1, 5, 83]), (60, .invokestatic 43, [111, 289, 290]), (63, .aload_n 1, []), (64, .getfield 27, [1, 6, 84]), (67, .aload_n 0, []), (68, .getfield 27, [1, 6, 84]), (71, .invokestatic 43, [111, 289, 290]), (74, .aload_n 0, []), (75, .aload_n 1, []), (76, .getfield 47, [1, 7, 85]), (79, .putfield 47, [1, 7, 85]), (82, .aload_n 1, []), (83, .getfield 30, [1, 8, 86]), (86, .aload_n 0, []), (87, .getfield 30, [1, 8, 86]), (90, .invokestatic 43, [111, 289, 290]), (93, .aload_n 0, []), (94, .aload_n 1, []), (95, .getfield 50, [1, 9, 87]), (98, .putfield 50, [1, 9, 87]), (101, .aload_n 1, []), (102, .getfield 33, [1, 10, 88]), (105, .aload_n 0, []), (106, .getfield 33, [1, 10, 88]), (109, .invokestatic 43, [111, 289, 290]), (112, .aload_n 0, []), (113, .aload_n 1, []), (114, .getfield 36, [1, 11, 89]), (117, .putfield 36, [1, 11, 89]), (120, .return_, [])]
def zk_7 : List zR := [(0, .aload_n 0, []), (1, .iconst 0, []), (2, .putfield 40, [1, 0, 78]), (5, .aload_n 0, []), (6, .iconst 0, []), (7, .putfield 47, [1, 7, 85]), (10, .aload_n 0, []), (11, .iconst 0, []), (12, .putfield 50, [1, 9, 87]), (15, .aload_n 0, []), (16, .getfield 33, [1, 10, 88]), (19, .iconst 0, []), (20, .iconst 0, []), (21, .invokestatic 54, [110, 198, 199]), (24, .aload_n 0, []), (25, .getfield 33, [1, 10, 88]), (28, .iconst 1, []), (29, .iconst 0, []), (30, .invokestatic 54, [110, 198, 199]), (33, .return_, [])]
def zk_8 : List zR := [(0, .aload_n 0, []), (1, .getfield 40, [1, 0, 78]), (4, .bipush 12, []), (6, .if_icmp .lt 7, [6]), (9, .iconst 1, []), (10, .goto 4, [7]), (13, .iconst 0, []), (14, .ireturn, [])]
def zk_9 : List zR := [(0, .aload_n 0, []), (1, .getfield 40, [1, 0, 78]), (4, .istore 4, []), (6, .aload_n 0, []), (7, .getfield 9, [1, 1, 79]), (10, .iload 4, []), (12, .iload_n 1, []), (13, .invokestatic 54, [110, 198, 199]), (16, .aload_n 0, []), (17, .getfield 15, [1, 2, 80]), (20, .iconst 2, []), (21, .iload 4, []), (23, .imul, []), (24, .iload_n 2, []), (25, .invokestatic 54, [110, 198, 199]), (28, .aload_n 0, []), (29, .getfield 15, [1, 2, 80]), (32, .iconst 2, []), (33, .iload 4, []), (35, .imul, []), (36, .iconst 1, []), (37, .iadd, []), (38, .iload_n 3, []), (39, .invokestatic 54, [110, 198, 199]), (42, .aload_n 0, []), (43, .iload 4, []), (45, .iconst 0, []), (46, .iconst 0, []), (47, .invokevirtual 58, [17, 201, 202, 203]), (50, .aload_n 0, []), (51, .iload 4, []), (53, .iconst 1, []), (54, .iconst 0, []), (55, .invokevirtual 58, [17, 201, 202, 203]), (58, .aload_n 0, []), (59, .iload 4, []), (61, .invokevirtual 62, [10, 205, 207, 0]), (64, .aload_n 0, []), (65, .dup, []), (66, .getfield 40, [1, 0, 78]), (69, .iconst 1, []), (70, .iadd, []), (71, .putfield 40, [1, 0, 78]), (74, .iload 4, []), (76, .ireturn, [])]
def zk_10 : List zR := [(0, .aload_n 0, []), (1, .getfield 21, [1, 4, 82]), (4, .iload_n 1, []), (5, .bipush (-4), []), (7, .invokestatic 54, [110, 198, 199]), (10, .aload_n 0, []), (11, .getfield 24, [1, 5, 83]), (14, .iload_n 1, []), (15, .bipush (-4), []), (17, .invokestatic 54, [110, 198, 199]), (20, .aload_n 0, []), (21, .getfield 27, [1, 6, 84]), (24, .iload_n 1, []), (25, .bipush (-4), []), (27, .invokestatic 54, [110, 198, 199]), (30, .return_, [])]
def zk_11 : List zR := [(0, .aload_n 0, []), (1, .getfield 40, [1, 0, 78]), (4, .ireturn, [])]
def zk_12 : List zR := [(0, .iload_n 1, []), (1, .ifCond .lt 15, [8]), (4, .iload_n 1, []), (5, .aload_n 0, []), (6, .getfield 40, [1, 0, 78]), (9, .if_icmp .ge 7, [8]), (12, .iconst 1, []), (13, .goto 4, [9]), (16, .iconst 0, []), (17, .ireturn, [])]
def zk_13 : List zR := [(0, .iload_n 1, []), (1, .ifCond .lt 17, [10]), (4, .iload_n 1, []), (5, .iconst 1, []), (6, .aload_n 0, []), (7, .getfield 40, [1, 0, 78]), (10, .ishl, []), (11, .if_icmp .ge 7, [10]), (14, .iconst 1, []), (15, .goto 4, [11]), (18, .iconst 0, []), (19, .ireturn, [])]
def zk_14 : List zR := [(0, .aload_n 0, []), (1, .getfield 9, [1, 1, 79]), (4, .iload_n 1, []), (5, .invokestatic 66, [109, 224, 225]), (8, .ireturn, [])]
def zk_15 : List zR := [(0, .aload_n 0, []), (1, .getfield 15, [1, 2, 80]), (4, .iconst 2, []), (5, .iload_n 1, []), (6, .imul, []), (7, .iload_n 2, []), (8, .iadd, []), (9, .invokestatic 66, [109, 224, 225]), (12, .ireturn, [])]
def zk_16 : List zR := [(0, .aload_n 0, []), (1, .getfield 18, [1, 3, 81]), (4, .iconst 2, []), (5, .iload_n 1, []), (6, .imul, []), (7, .iload_n 2, []), (8, .iadd, []), (9, .invokestatic 66, [109, 224, 225]), (12, .ireturn, [])]
def zk_17 : List zR := [(0, .aload_n 0, []), (1, .getfield 18, [1, 3, 81]), (4, .iconst 2, []), (5, .iload_n 1, []), (6, .imul, []), (7, .iload_n 2, []), (8, .iadd, []), (9, .iload_n 3, []), (10, .invokestatic 54, [110, 198, 199]), (13, .return_, [])]
def zk_18 : List zR := [(0, .aload_n 0, []), (1, .getfield 21, [1, 4, 82]), (4, .iload_n 1, []), (5, .invokestatic 66, [109, 224, 225]), (8, .ireturn, [])]
def zk_19 : List zR := [(0, .aload_n 0, []), (1, .getfield 21, [1, 4, 82]), (4, .iload_n 1, []), (5, .iload_n 2, []), (6, .invokestatic 54, [110, 198, 199]), (9, .return_, [])]
def zk_20 : List zR := [(0, .iconst 0, []), (1, .istore_n 2, []), (2, .iconst 0, []), (3, .istore_n 3, []), (4, .iload_n 3, []), (5, .aload_n 0, []), (6, .getfield 40, [1, 0, 78]), (9, .if_icmp .ge 21, [16]), (12, .aload_n 0, []), (13, .iload_n 3, []), (14, .invokevirtual 70, [18, 356, 249, 250]), (17, .iload_n 1, []), (18, .if_icmp .ne 6, [14]), (21, .iinc 2 1, []), (24, .iinc 3 1, []), (27, .goto (-23), [4]), (30, .iload_n 2, []), (31, .ireturn, [])]
def zk_21 : List zR := [(0, .aload_n 0, []), (1, .getfield 33, [1, 10, 88]), (4, .iload_n 1, []), (5, .invokestatic 66, [109, 224, 225]), (8, .ireturn, [])]
def zk_22 : List zR := [(0, .aload_n 0, []), (1, .getfield 24, [1, 5, 83]), (4, .iload_n 1, []), (5, .invokestatic 66, [109, 224, 225]), (8, .ireturn, [])]
def zk_23 : List zR := [(0, .aload_n 0, []), (1, .iload_n 1, []), (2, .invokevirtual 74, [22, 260, 241, 242]), (5, .ifCond .lt 7, [6]), (8, .iconst 1, []), (9, .goto 4, [7]), (12, .iconst 0, []), (13, .ireturn, [])]
def zk_24 : List zR := [(0, .aload_n 0, []), (1, .getfield 27, [1, 6, 84]), (4, .iload_n 1, []), (5, .invokestatic 66, [109, 224, 225]), (8, .ireturn, [])]
def zk_25 : List zR := [(0, .iconst 1, []), (1, .aload_n 0, []), (2, .iload_n 1, []), (3, .invokevirtual 77, [24, 426, 245, 246]), (6, .isub, []), (7, .ireturn, [])]
def zk_26 : List zR := [(0, .aload_n 0, []), (1, .getfield 47, [1, 7, 85]), (4, .ireturn, [])]
def zk_27 : List zR := [(0, .aload_n 0, []), (1, .getfield 30, [1, 8, 86]), (4, .iload_n 1, []), (5, .invokestatic 66, [109, 224, 225]), (8, .ireturn, [])]
def zk_28 : List zR := [(0, .aload_n 0, []), (1, .getfield 50, [1, 9, 87]), (4, .ireturn, [])]
def zk_29 : List zR := [(0, .aload_n 0, []), (1, .iload_n 1, []), (2, .putfield 50, [1, 9, 87]), (5, .return_, [])]
def zk_30 : List zR := [(0, .aload_n 0, []), (1, .getfield 36, [1, 11, 89]), (4, .ireturn, [])]
def zk_31 : List zR := [(0, .aload_n 0, []), (1, .iload_n 1, []), (2, .putfield 36, [1, 11, 89]), (5, .return_, [])]
def zk_32 : List zR := [(0, .aload_n 0, []), (1, .getfield 30, [1, 8, 86]), (4, .aload_n 0, []), (5, .getfield 47, [1, 7, 85]), (8, .iconst 1, []), (9, .isub, []), (10, .invokestatic 66, [109, 224, 225]), (13, .istore_n 1, []), (14, .aload_n 0, []), (15, .getfield 15, [1, 2, 80]), (18, .iconst 2, []), (19, .iload_n 1, []), (20, .imul, []), (21, .iconst 1, []), (22, .iadd, []), (23, .aload_n 0, []), (24, .getfield 27, [1, 6, 84]), (27, .iload_n 1, []), (28, .invokestatic 66, [109, 224, 225]), (31, .isub, []), (32, .invokestatic 66, [109, 224, 225]), (35, .ireturn, [])]
def zk_33 : List zR := [(0, .iload_n 0, []), (1, .iload_n 1, []), (2, .isub, []), (3, .invokestatic 80, [177, 390, 391]), (6, .iconst 1, []), (7, .if_icmp .gt 7, [8]), (10, .iconst 1, []), (11, .goto 4, [9]), (14, .iconst 0, []), (15, .ireturn, [])]
def zk_34 : List zR := [(0, .aload_n 0, []), (1, .getfield 47, [1, 7, 85]), (4, .ifCond .eq 19, [11]), (7, .aload_n 0, []), (8, .iload_n 1, []), (9, .iload_n 2, []), (10, .invokevirtual 85, [15, 382, 221, 222]), (13, .aload_n 0, []), (14, .invokevirtual 89, [32, 383, 385, 7]), (17, .invokestatic 93, [33, 387, 388]), (20, .ifCond .eq 7, [13]), (23, .iconst 1, []), (24, .goto 4, [14]), (27, .iconst 0, []), (28, .ireturn, [])]
def zk_35 : List zR := [(0, .iload_n 2, []), (1, .iconst 2, []), (2, .idiv, []), (3, .istore_n 3, []), (4, .aload_n 0, []), (5, .iload_n 3, []), (6, .invokevirtual 97, [12, 518, 214, 215]), (9, .ifCond .eq 27, [22]), (12, .aload_n 0, []), (13, .iload_n 3, []), (14, .invokevirtual 70, [18, 356, 249, 250]), (17, .iload_n 1, []), (18, .if_icmp .ne 18, [22]), (21, .aload_n 0, []), (22, .iload_n 3, []), (23, .iload_n 2, []), (24, .iconst 2, []), (25, .irem, []), (26, .invokevirtual 101, [34, 519, 379, 380]), (29, .ifCond .eq 7, [22]), (32, .iconst 1, []), (33, .goto 4, [23]), (36, .iconst 0, []), (37, .ireturn, [])]
def zk_36 : List zR := [(0, .aload_n 0, []), (1, .getfield 47, [1, 7, 85]), (4, .iconst 3, []), (5, .if_icmp .ge 5, [6]), (8, .iconst 0, []), (9, .ireturn, []), (10, .aload_n 0, []), (11, .iconst 0, []), (12, .invokevirtual 104, [27, 365, 366, 367]), (15, .istore_n 1, []), (16, .aload_n 0, []), (17, .iload_n 1, []), (18, .aload_n 0, []), (19, .iload_n 1, []), (20, .invokevirtual 77, [24, 426, 245, 246]), (23, .invokevirtual 85, [15, 382, 221, 222]), (26, .aload_n 0, []), (27, .invokevirtual 89, [32, 383, 385, 7]), (30, .invokestatic 93, [33, 387, 388]), (33, .ireturn, [])]
def zk_37 : List zR := [(0, .aload_n 0, []), (1, .invokevirtual 107, [43, 402, 403, 404]), (4, .istore_n 3, []), (5, .aload_n 0, []), (6, .iload_n 3, []), (7, .invokevirtual 110, [44, 414, 415, 416]), (10, .ifCond .ne 8, [10]), (13, .aload_n 0, []), (14, .iload_n 3, []), (15, .invokevirtual 113, [46, 422, 423, 424]), (18, .aload_n 0, []), (19, .iload_n 1, []), (20, .invokevirtual 70, [18, 356, 249, 250]), (23, .istore 4, []), (25, .aload_n 0, []), (26, .iload_n 1, []), (27, .invokevirtual 62, [10, 205, 207, 0]), (30, .aload_n 0, []), (31, .getfield 24, [1, 5, 83]), (34, .iload_n 1, []), (35, .aload_n 0, []), (36, .getfield 47, [1, 7, 85]), (39, .invokestatic 54, [110, 198, 199]), (42, .aload_n 0, []), (43, .getfield 27, [1, 6, 84]), (46, .iload_n 1, []), (47, .iload_n 2, []), (48, .invokestatic 54, [110, 198, 199]), (51, .aload_n 0, []), (52, .getfield 30, [1, 8, 86]), (55, .aload_n 0, []), (56, .getfield 47, [1, 7, 85]), (59, .iload_n 1, []), (60, .invokestatic 54, [110, 198, 199]), (63, .aload_n 0, []), (64, .dup, []), (65, .getfield 47, [1, 7, 85]), (68, .iconst 1, []), (69, .iadd, []), (70, .putfield 47, [1, 7, 85]), (73, .aload_n 0, []), (74, .invokevirtual 116, [38, 441, 443, 12]), (77, .istore 5, []), (79, .iload 4, []), (81, .invokestatic 119, [96, 447, 448]), (84, .ifCond .eq 21, [55]), (87, .aload_n 0, []), (88, .getfield 33, [1, 10, 88]), (91, .iload 4, []), (93, .aload_n 0, []), (94, .iload 4, []), (96, .invokevirtual 122, [21, 450, 358, 359]), (99, .iload 5, []), (101, .iadd, []), (102, .invokestatic 54, [110, 198, 199]), (105, .iload 5, []), (107, .ireturn, [])]
def zk_38 : List zR := [(0, .aload_n 0, []), (1, .getfield 47, [1, 7, 85]), (4, .iconst 2, []), (5, .if_icmp .lt 16, [11]), (8, .aload_n 0, []), (9, .invokevirtual 125, [39, 445, 362, 363]), (12, .iconst 2, []), (13, .aload_n 0, []), (14, .getfield 47, [1, 7, 85]), (17, .imul, []), (18, .if_icmp .ge 5, [13]), (21, .iconst 0, []), (22, .ireturn, []), (23, .aload_n 0, []), (24, .getfield 47, [1, 7, 85]), (27, .istore_n 1, []), (28, .iconst 0, []), (29, .istore_n 2, []), (30, .iload_n 2, []), (31, .aload_n 0, []), (32, .getfield 47, [1, 7, 85]), (35, .if_icmp .ge 25, [32]), (38, .aload_n 0, []), (39, .aload_n 0, []), (40, .iload_n 2, []), (41, .invokevirtual 104, [27, 365, 366, 367]), (44, .invokevirtual 128, [14, 446, 237, 238]), (47, .iconst 3, []), (48, .if_icmp .ne 6, [30]), (51, .iinc 1 1, []), (54, .iinc 2 1, []), (57, .goto (-27), [18]), (60, .iload_n 1, []), (61, .ireturn, [])]
def zk_39 : List zR := [(0, .iconst 0, []), (1, .istore_n 1, []), (2, .iconst 0, []), (3, .istore_n 2, []), (4, .iload_n 2, []), (5, .aload_n 0, []), (6, .getfield 47, [1, 7, 85]), (9, .if_icmp .ge 47, [34]), (12, .aload_n 0, []), (13, .iload_n 2, []), (14, .invokevirtual 104, [27, 365, 366, 367]), (17, .istore_n 3, []), (18, .iload_n 1, []), (19, .aload_n 0, []), (20, .iload_n 3, []), (21, .iconst 0, []), (22, .invokevirtual 131, [16, 369, 228, 229]), (25, .ifCond .ne 7, [20]), (28, .iconst 1, []), (29, .goto 4, [21]), (32, .iconst 0, []), (33, .aload_n 0, []), (34, .iload_n 3, []), (35, .iconst 1, []), (36, .invokevirtual 131, [16, 369, 228, 229]), (39, .ifCond .ne 7, [28]), (42, .iconst 1, []), (43, .goto 4, [29]), (46, .iconst 0, []), (47, .iadd, []), (48, .iadd, []), (49, .istore_n 1, []), (50, .iinc 2 1, []), (53, .goto (-49), [4]), (56, .iload_n 1, []), (57, .ireturn, [])]
def zk_40 : List zR := [(0, .iconst 0, []), (1, .istore_n 2, []), (2, .iload_n 2, []), (3, .iload_n 1, []), (4, .if_icmp .ge 38, [22]), (7, .aload_n 0, []), (8, .getfield 47, [1, 7, 85]), (11, .ifCond .le 31, [22]), (14, .aload_n 0, []), (15, .dup, []), (16, .getfield 47, [1, 7, 85]), (19, .iconst 1, []), (20, .isub, []), (21, .putfield 47, [1, 7, 85]), (24, .aload_n 0, []), (25, .aload_n 0, []), (26, .aload_n 0, []), (27, .getfield 47, [1, 7, 85]), (30, .invokevirtual 104, [27, 365, 366, 367]), (33, .invokevirtual 62, [10, 205, 207, 0]), (36, .iinc 2 1, []), (39, .goto (-37), [2]), (42, .aload_n 0, []), (43, .iconst 0, []), (44, .putfield 50, [1, 9, 87]), (47, .return_, [])]
def zk_41 : List zR := [(0, .aload_n 0, []), (1, .getfield 9, [1, 1, 79]), (4, .iload_n 1, []), (5, .invokestatic 66, [109, 224, 225]), (8, .iconst 2, []), (9, .if_icmp .ne 7, [8]), (12, .iload_n 2, []), (13, .goto 5, [10]), (16, .iload_n 2, []), (17, .ineg, []), (18, .ireturn, [])]
def zk_42 : List zR := [(0, .iconst (-1), []), (1, .istore_n 2, []), (2, .iconst 0, []), (3, .istore_n 3, []), (4, .iload_n 3, []), (5, .iload_n 1, []), (6, .if_icmp .gt 29, [21]), (9, .iload_n 3, []), (10, .aload_n 0, []), (11, .getfield 47, [1, 7, 85]), (14, .if_icmp .ge 21, [21]), (17, .aload_n 0, []), (18, .aload_n 0, []), (19, .iload_n 3, []), (20, .invokevirtual 104, [27, 365, 366, 367]), (23, .iload_n 2, []), (24, .ineg, []), (25, .invokevirtual 134, [41, 410, 412, 9]), (28, .istore_n 2, []), (29, .iinc 3 1, []), (32, .goto (-28), [4]), (35, .iload_n 2, []), (36, .ireturn, [])]
def zk_43 : List zR := [(0, .aload_n 0, []), (1, .aload_n 0, []), (2, .getfield 47, [1, 7, 85]), (5, .iconst 1, []), (6, .isub, []), (7, .invokevirtual 137, [42, 406, 408, 8]), (10, .ireturn, [])]
def zk_44 : List zR := [(0, .iconst 0, []), (1, .istore_n 2, []), (2, .iload_n 1, []), (3, .istore_n 3, []), (4, .iconst 0, []), (5, .istore 4, []), (7, .iconst 0, []), (8, .istore 5, []), (10, .iload 5, []), (12, .aload_n 0, []), (13, .getfield 47, [1, 7, 85]), (16, .if_icmp .ge 56, [39]), (19, .aload_n 0, []), (20, .getfield 30, [1, 8, 86]), (23, .iload 5, []), (25, .invokestatic 66, [109, 224, 225]), (28, .istore 6, []), (30, .aload_n 0, []), (31, .iload 6, []), (33, .iload_n 3, []), (34, .invokevirtual 134, [41, 410, 412, 9]), (37, .istore 4, []), (39, .aload_n 0, []), (40, .iload 6, []), (42, .invokevirtual 140, [45, 418, 420, 10]), (45, .ifCond .eq 17, [34]), (48, .iload_n 3, []), (49, .ifCond .lt 8, [30]), (52, .iload 4, []), (54, .ifCond .ge 8, [34]), (57, .iconst 2, []), (58, .iload 6, []), (60, .iadd, []), (61, .istore_n 2, []), (62, .iload 4, []), (64, .ineg, []), (65, .istore_n 3, []), (66, .iinc 5 1, []), (69, .goto (-59), [8]), (72, .aload_n 0, []), (73, .getfield 50, [1, 9, 87]), (76, .ifCond .eq 13, [47]), (79, .iload 4, []), (81, .iload_n 1, []), (82, .if_icmp .ne 7, [47]), (85, .iconst 1, []), (86, .goto 4, [48]), (89, .iload_n 2, []), (90, .ireturn, [])]
def zk_45 : List zR := [(0, .aload_n 0, []), (1, .getfield 9, [1, 1, 79]), (4, .iload_n 1, []), (5, .invokestatic 66, [109, 224, 225]), (8, .istore_n 2, []), (9, .iload_n 2, []), (10, .iconst 1, []), (11, .if_icmp .eq 8, [11]), (14, .iload_n 2, []), (15, .iconst 3, []), (16, .if_icmp .ne 7, [13]), (19, .iconst 1, []), (20, .goto 4, [14]), (23, .iconst 0, []), (24, .ireturn, [])]
def zk_46 : List zR := [(0, .iload_n 1, []), (1, .istore_n 2, []), (2, .iconst 0, []), (3, .istore_n 3, []), (4, .iload_n 3, []), (5, .aload_n 0, []), (6, .getfield 47, [1, 7, 85]), (9, .if_icmp .ge 53, [36]), (12, .aload_n 0, []), (13, .iload_n 3, []), (14, .invokevirtual 104, [27, 365, 366, 367]), (17, .istore 4, []), (19, .aload_n 0, []), (20, .iload 4, []), (22, .aload_n 0, []), (23, .iload 4, []), (25, .invokevirtual 77, [24, 426, 245, 246]), (28, .iload_n 2, []), (29, .invokevirtual 143, [47, 427, 429, 11]), (32, .aload_n 0, []), (33, .iload 4, []), (35, .iload_n 2, []), (36, .invokevirtual 134, [41, 410, 412, 9]), (39, .istore_n 2, []), (40, .aload_n 0, []), (41, .iload 4, []), (43, .aload_n 0, []), (44, .iload 4, []), (46, .invokevirtual 146, [25, 437, 438, 439]), (49, .iload_n 2, []), (50, .invokevirtual 143, [47, 427, 429, 11]), (53, .iload_n 2, []), (54, .ineg, []), (55, .istore_n 2, []), (56, .iinc 3 1, []), (59, .goto (-55), [4]), (62, .return_, [])]
def zk_47 : List zR := [(0, .aload_n 0, []), (1, .iload_n 1, []), (2, .iload_n 2, []), (3, .aload_n 0, []), (4, .iload_n 1, []), (5, .iload_n 2, []), (6, .invokevirtual 131, [16, 369, 228, 229]), (9, .iload_n 3, []), (10, .iadd, []), (11, .aload_n 0, []), (12, .iload_n 1, []), (13, .iload_n 2, []), (14, .invokevirtual 85, [15, 382, 221, 222]), (17, .invokestatic 149, [48, 431, 432]), (20, .invokevirtual 58, [17, 201, 202, 203]), (23, .return_, [])]
def zk_48 : List zR := [(0, .iload_n 1, []), (1, .ifCond .le 11, [6]), (4, .iload_n 0, []), (5, .iload_n 1, []), (6, .invokestatic 152, [176, 434, 435]), (9, .goto 4, [7]), (12, .iconst 0, []), (13, .ireturn, [])]
def zk_49 : List zR := [(0, .iconst 1, []), (1, .istore_n 1, []), (2, .iconst 0, []), (3, .istore_n 2, []), (4, .iload_n 2, []), (5, .aload_n 0, []), (6, .getfield 47, [1, 7, 85]), (9, .if_icmp .ge 37, [28]), (12, .aload_n 0, []), (13, .iload_n 2, []), (14, .invokevirtual 104, [27, 365, 366, 367]), (17, .istore_n 3, []), (18, .iload_n 1, []), (19, .aload_n 0, []), (20, .iload_n 3, []), (21, .iconst 0, []), (22, .invokevirtual 85, [15, 382, 221, 222]), (25, .invokestatic 155, [50, 494, 495]), (28, .istore_n 1, []), (29, .iload_n 1, []), (30, .aload_n 0, []), (31, .iload_n 3, []), (32, .iconst 1, []), (33, .invokevirtual 85, [15, 382, 221, 222]), (36, .invokestatic 155, [50, 494, 495]), (39, .istore_n 1, []), (40, .iinc 2 1, []), (43, .goto (-39), [4]), (46, .iload_n 1, []), (47, .ireturn, [])]
def zk_50 : List zR := [(0, .iload_n 0, []), (1, .istore_n 2, []), (2, .iconst 1, []), (3, .istore_n 3, []), (4, .iload_n 3, []), (5, .iload_n 1, []), (6, .if_icmp .ge 21, [17]), (9, .iload_n 2, []), (10, .iload_n 1, []), (11, .invokestatic 149, [48, 431, 432]), (14, .ifCond .eq 13, [17]), (17, .iload_n 2, []), (18, .iload_n 0, []), (19, .iadd, []), (20, .istore_n 2, []), (21, .iinc 3 1, []), (24, .goto (-20), [4]), (27, .iload_n 2, []), (28, .ireturn, [])]
def zk_51 : List zR := [(0, .iconst 0, []), (1, .istore_n 1, []), (2, .iconst 1, []), (3, .istore_n 2, []), (4, .iconst (-1), []), (5, .istore_n 3, []), (6, .iconst 0, []), (7, .istore 4, []), (9, .iload 4, []), (11, .iconst 2, []), (12, .aload_n 0, []), (13, .getfield 47, [1, 7, 85]), (16, .imul, []), (17, .if_icmp .ge 105, [69]), (20, .aload_n 0, []), (21, .iload 4, []), (23, .iconst 2, []), (24, .idiv, []), (25, .invokevirtual 104, [27, 365, 366, 367]), (28, .istore 5, []), (30, .iload 4, []), (32, .iconst 2, []), (33, .irem, []), (34, .ifCond .ne 7, [26]), (37, .iconst 1, []), (38, .goto 4, [27]), (41, .iconst 0, []), (42, .istore 6, []), (44, .iload 6, []), (46, .ifCond .eq 12, [34]), (49, .aload_n 0, []), (50, .iload 5, []), (52, .invokevirtual 77, [24, 426, 245, 246]), (55, .goto 9, [37]), (58, .aload_n 0, []), (59, .iload 5, []), (61, .invokevirtual 146, [25, 437, 438, 439]), (64, .istore 7, []), (66, .iload 6, []), (68, .ifCond .eq 8, [43]), (71, .iload_n 3, []), (72, .ineg, []), (73, .goto 10, [47]), (76, .aload_n 0, []), (77, .iload 5, []), (79, .iload_n 3, []), (80, .invokevirtual 134, [41, 410, 412, 9]), (83, .istore_n 3, []), (84, .aload_n 0, []), (85, .iload 5, []), (87, .iload 7, []), (89, .iload_n 3, []), (90, .iload_n 1, []), (91, .iload_n 2, []), (92, .invokevirtual 158, [52, 505, 507, 14]), (95, .istore_n 1, []), (96, .iload_n 1, []), (97, .ifCond .ge 6, [60]), (100, .bipush (-4), []), (102, .ireturn, []), (103, .iload_n 2, []), (104, .aload_n 0, []), (105, .iload 5, []), (107, .iload 7, []), (109, .invokevirtual 85, [15, 382, 221, 222]), (112, .invokestatic 155, [50, 494, 495]), (115, .istore_n 2, []), (116, .iinc 4 1, []), (119, .goto (-110), [8]), (122, .iload_n 1, []), (123, .ireturn, [])]
def zk_52 : List zR := [(0, .aload_n 0, []), (1, .iload_n 1, []), (2, .iload_n 2, []), (3, .invokevirtual 85, [15, 382, 221, 222]), (6, .istore 6, []), (8, .aload_n 0, []), (9, .iload_n 1, []), (10, .iload_n 2, []), (11, .invokevirtual 131, [16, 369, 228, 229]), (14, .istore 7, []), (16, .iconst 0, []), (17, .istore 8, []), (19, .iload 8, []), (21, .iload 6, []), (23, .if_icmp .ge 37, [33]), (26, .iload 4, []), (28, .iload 8, []), (30, .iload 5, []), (32, .imul, []), (33, .iadd, []), (34, .istore 9, []), (36, .iload 7, []), (38, .iload_n 3, []), (39, .iload 9, []), (41, .imul, []), (42, .iadd, []), (43, .iload 6, []), (45, .invokestatic 149, [48, 431, 432]), (48, .ifCond .ne 6, [31]), (51, .iload 9, []), (53, .ireturn, []), (54, .iinc 8 1, []), (57, .goto (-38), [12]), (60, .bipush (-4), []), (62, .ireturn, [])]
def zk_53 : List zR := [(0, .aload_n 0, []), (1, .iload_n 1, []), (2, .invokevirtual 146, [25, 437, 438, 439]), (5, .istore_n 3, []), (6, .iload_n 2, []), (7, .aload_n 0, []), (8, .iload_n 1, []), (9, .iload_n 3, []), (10, .invokevirtual 131, [16, 369, 228, 229]), (13, .isub, []), (14, .istore 4, []), (16, .aload_n 0, []), (17, .aload_n 0, []), (18, .iload_n 1, []), (19, .invokevirtual 74, [22, 260, 241, 242]), (22, .invokevirtual 137, [42, 406, 408, 8]), (25, .iload 4, []), (27, .imul, []), (28, .aload_n 0, []), (29, .iload_n 1, []), (30, .iload_n 3, []), (31, .invokevirtual 85, [15, 382, 221, 222]), (34, .invokestatic 149, [48, 431, 432]), (37, .ireturn, [])]
def zk_54 : List zR := [(0, .aload_n 0, []), (1, .iload_n 1, []), (2, .invokevirtual 162, [55, 544, 546, 16]), (5, .istore_n 2, []), (6, .iload_n 2, []), (7, .ifCond .ne 5, [8]), (10, .iconst 0, []), (11, .ireturn, []), (12, .aload_n 0, []), (13, .aload_n 0, []), (14, .getfield 36, [1, 11, 89]), (17, .ldc 165, [1103515245, 0, 549]), (19, .imul, []), (20, .sipush 12345, []), (23, .iadd, []), (24, .ldc 166, [2147483647, 0, 550]), (26, .iand, []), (27, .putfield 36, [1, 11, 89]), (30, .aload_n 0, []), (31, .getfield 36, [1, 11, 89]), (34, .ldc 167, [65536, 0, 551]), (36, .idiv, []), (37, .iload_n 2, []), (38, .invokestatic 149, [48, 431, 432]), (41, .istore_n 3, []), (42, .iconst 0, []), (43, .istore 4, []), (45, .iload 4, []), (47, .bipush 24, []), (49, .if_icmp .ge 41, [51]), (52, .aload_n 0, []), (53, .iload_n 1, []), (54, .iload 4, []), (56, .invokevirtual 168, [35, 548, 515, 516]), (59, .ifCond .eq 25, [49]), (62, .iload_n 3, []), (63, .ifCond .ne 18, [48]), (66, .aload_n 0, []), (67, .iload 4, []), (69, .iconst 2, []), (70, .idiv, []), (71, .iload 4, []), (73, .iconst 2, []), (74, .irem, []), (75, .invokevirtual 171, [37, 552, 399, 400]), (78, .pop, []), (79, .iconst 1, []), (80, .ireturn, []), (81, .iinc 3 (-1), []), (84, .iinc 4 1, []), (87, .goto (-42), [27]), (90, .iconst 0, []), (91, .ireturn, [])]
def zk_55 : List zR := [(0, .iconst 0, []), (1, .istore_n 2, []), (2, .iconst 0, []), (3, .istore_n 3, []), (4, .iload_n 3, []), (5, .bipush 24, []), (7, .if_icmp .ge 21, [15]), (10, .aload_n 0, []), (11, .iload_n 1, []), (12, .iload_n 3, []), (13, .invokevirtual 168, [35, 548, 515, 516]), (16, .ifCond .eq 6, [13]), (19, .iinc 2 1, []), (22, .iinc 3 1, []), (25, .goto (-21), [4]), (28, .iload_n 2, []), (29, .ireturn, [])]
def zk_56 : List zR := [(0, .aload_n 0, []), (1, .getfield 15, [2, 1, 123]), (4, .ireturn, [])]
def zk_57 : List zR := [(0, .aload_n 0, []), (1, .getfield 9, [2, 0, 122]), (4, .aload_n 0, []), (5, .getfield 15, [2, 1, 123]), (8, .iload_n 1, []), (9, .invokestatic 19, [110, 280, 199]), (12, .aload_n 0, []), (13, .dup, []), (14, .getfield 15, [2, 1, 123]), (17, .iconst 1, []), (18, .iadd, []), (19, .putfield 15, [2, 1, 123]), (22, .return_, [])]
def zk_58 : List zR := [(0, .aload_n 0, []), (1, .iconst 0, []), (2, .putfield 15, [2, 1, 123]), (5, .return_, [])]
def zk_59 : List zR := [(0, .aload_n 0, []), (1, .iconst (-1), []), (2, .putfield 23, [2, 2, 124]), (5, .aload_n 0, []), (6, .invokevirtual 26, [60, 306, 308, 1]), (9, .aload_n 0, []), (10, .aload_n 1, []), (11, .invokevirtual 29, [61, 311, 313, 2]), (14, .istore_n 2, []), (15, .iconst 1, []), (16, .istore_n 3, []), (17, .iload_n 3, []), (18, .bipush 8, []), (20, .if_icmp .ge 47, [35]), (23, .iload_n 2, []), (24, .ifCond .eq 43, [35]), (27, .aload_n 0, []), (28, .getfield 23, [2, 2, 124]), (31, .aload_n 0, []), (32, .getfield 15, [2, 1, 123]), (35, .if_icmp .ge 32, [35]), (38, .aload_n 0, []), (39, .bipush 44, []), (41, .invokevirtual 33, [65, 324, 326, 5]), (44, .ifCond .eq 15, [31]), (47, .aload_n 0, []), (48, .aload_n 1, []), (49, .invokevirtual 29, [61, 311, 313, 2]), (52, .ifCond .eq 7, [31]), (55, .iconst 1, []), (56, .goto 4, [32]), (59, .iconst 0, []), (60, .istore_n 2, []), (61, .iinc 3 1, []), (64, .goto (-47), [11]), (67, .iload_n 2, []), (68, .ifCond .eq 21, [45]), (71, .aload_n 0, []), (72, .getfield 23, [2, 2, 124]), (75, .aload_n 0, []), (76, .getfield 15, [2, 1, 123]), (79, .if_icmp .ne 10, [45]), (82, .aload_n 1, []), (83, .invokevirtual 37, [11, 335, 336, 337]), (86, .goto 10, [49]), (89, .bipush (-20), []), (91, .aload_n 0, []), (92, .getfield 23, [2, 2, 124]), (95, .isub, []), (96, .ireturn, [])]
def zk_60 : List zR := [(0, .aload_n 0, []), (1, .dup, []), (2, .getfield 23, [2, 2, 124]), (5, .iconst 1, []), (6, .iadd, []), (7, .putfield 23, [2, 2, 124]), (10, .aload_n 0, []), (11, .getfield 23, [2, 2, 124]), (14, .aload_n 0, []), (15, .getfield 15, [2, 1, 123]), (18, .if_icmp .ge 19, [18]), (21, .aload_n 0, []), (22, .getfield 9, [2, 0, 122]), (25, .aload_n 0, []), (26, .getfield 23, [2, 2, 124]), (29, .invokestatic 43, [109, 310, 225]), (32, .bipush 32, []), (34, .if_icmp .eq (-34), [0]), (37, .return_, [])]
def zk_61 : List zR := [(0, .aload_n 0, []), (1, .iconst 3, []), (2, .bipush 9, []), (4, .invokevirtual 47, [64, 315, 317, 3]), (7, .istore_n 2, []), (8, .iload_n 2, []), (9, .ifCond .ge 8, [9]), (12, .bipush (-4), []), (14, .goto 10, [13]), (17, .aload_n 0, []), (18, .iconst 3, []), (19, .bipush 9, []), (21, .invokevirtual 47, [64, 315, 317, 3]), (24, .istore_n 3, []), (25, .iload_n 3, []), (26, .ifCond .ge 5, [18]), (29, .iconst 0, []), (30, .ireturn, []), (31, .aload_n 1, []), (32, .aload_n 0, []), (33, .invokevirtual 51, [63, 320, 322, 4]), (36, .iload_n 2, []), (37, .iload_n 3, []), (38, .invokevirtual 54, [9, 328, 195, 196]), (41, .istore 4, []), (43, .aload_n 0, []), (44, .bipush 64, []), (46, .invokevirtual 33, [65, 324, 326, 5]), (49, .ifCond .eq 25, [41]), (52, .aload_n 0, []), (53, .aload_n 1, []), (54, .iload 4, []), (56, .iconst 0, []), (57, .invokevirtual 58, [62, 329, 331, 6]), (60, .ifCond .eq 18, [43]), (63, .aload_n 0, []), (64, .aload_n 1, []), (65, .iload 4, []), (67, .iconst 1, []), (68, .invokevirtual 58, [62, 329, 331, 6]), (71, .ifCond .eq 7, [43]), (74, .iconst 1, []), (75, .goto 4, [44]), (78, .iconst 0, []), (79, .ireturn, [])]
def zk_62 : List zR := [(0, .aload_n 0, []), (1, .iconst 0, []), (2, .aload_n 1, []), (3, .iload_n 2, []), (4, .iload_n 3, []), (5, .invokevirtual 62, [15, 333, 221, 222]), (8, .iconst 1, []), (9, .isub, []), (10, .invokevirtual 47, [64, 315, 317, 3]), (13, .istore 4, []), (15, .iload 4, []), (17, .ifCond .ge 5, [14]), (20, .iconst 0, []), (21, .ireturn, []), (22, .aload_n 1, []), (23, .iload_n 2, []), (24, .iload_n 3, []), (25, .iload 4, []), (27, .invokevirtual 65, [17, 334, 202, 203]), (30, .iconst 1, []), (31, .ireturn, [])]
def zk_63 : List zR := [(0, .aload_n 0, []), (1, .bipush 112, []), (3, .invokevirtual 33, [65, 324, 326, 5]), (6, .ifCond .eq 7, [6]), (9, .iconst 1, []), (10, .goto 30, [19]), (13, .aload_n 0, []), (14, .bipush 115, []), (16, .invokevirtual 33, [65, 324, 326, 5]), (19, .ifCond .eq 7, [12]), (22, .iconst 2, []), (23, .goto 17, [19]), (26, .aload_n 0, []), (27, .bipush 104, []), (29, .invokevirtual 33, [65, 324, 326, 5]), (32, .ifCond .eq 7, [18]), (35, .iconst 3, []), (36, .goto 4, [19]), (39, .iconst 0, []), (40, .ireturn, [])]
def zk_64 : List zR := [(0, .aload_n 0, []), (1, .getfield 23, [2, 2, 124]), (4, .aload_n 0, []), (5, .getfield 15, [2, 1, 123]), (8, .if_icmp .ge 20, [13]), (11, .aload_n 0, []), (12, .getfield 9, [2, 0, 122]), (15, .aload_n 0, []), (16, .getfield 23, [2, 2, 124]), (19, .invokestatic 43, [109, 310, 225]), (22, .bipush 48, []), (24, .isub, []), (25, .goto 5, [14]), (28, .bipush (-4), []), (30, .istore_n 3, []), (31, .iload_n 3, []), (32, .iload_n 1, []), (33, .iload_n 2, []), (34, .invokestatic 69, [93, 319, 185]), (37, .ifCond .ne 6, [22]), (40, .bipush (-4), []), (42, .ireturn, []), (43, .aload_n 0, []), (44, .invokevirtual 26, [60, 306, 308, 1]), (47, .iload_n 3, []), (48, .ireturn, [])]
def zk_65 : List zR := [(0, .aload_n 0, []), (1, .getfield 23, [2, 2, 124]), (4, .aload_n 0, []), (5, .getfield 15, [2, 1, 123]), (8, .if_icmp .ge 18, [12]), (11, .aload_n 0, []), (12, .getfield 9, [2, 0, 122]), (15, .aload_n 0, []), (16, .getfield 23, [2, 2, 124]), (19, .invokestatic 43, [109, 310, 225]), (22, .iload_n 1, []), (23, .if_icmp .eq 5, [14]), (26, .iconst 0, []), (27, .ireturn, []), (28, .aload_n 0, []), (29, .invokevirtual 26, [60, 306, 308, 1]), (32, .iconst 1, []), (33, .ireturn, [])]
def zk_66 : List zR := [(0, .iload_n 1, []), (1, .iconst 0, []), (2, .iconst 3, []), (3, .invokestatic 46, [93, 184, 185]), (6, .ifCond .eq 17, [11]), (9, .iload_n 2, []), (10, .invokestatic 50, [94, 187, 188]), (13, .ifCond .eq 10, [11]), (16, .iload_n 3, []), (17, .invokestatic 50, [94, 187, 188]), (20, .ifCond .ne 5, [13]), (23, .iconst (-1), []), (24, .ireturn, []), (25, .aload_n 0, []), (26, .getfield 10, [3, 0, 152]), (29, .invokevirtual 54, [8, 190, 191, 192]), (32, .ifCond .eq 8, [19]), (35, .bipush (-3), []), (37, .goto 13, [25]), (40, .aload_n 0, []), (41, .getfield 10, [3, 0, 152]), (44, .iload_n 1, []), (45, .iload_n 2, []), (46, .iload_n 3, []), (47, .invokevirtual 58, [9, 194, 195, 196]), (50, .ireturn, [])]
def zk_67 : List zR := [(0, .aload_n 0, []), (1, .getfield 10, [3, 0, 152]), (4, .iload_n 1, []), (5, .invokevirtual 62, [12, 213, 214, 215]), (8, .ifCond .eq 29, [19]), (11, .iload_n 2, []), (12, .invokestatic 65, [95, 217, 218]), (15, .ifCond .eq 22, [19]), (18, .iload_n 3, []), (19, .iconst 0, []), (20, .aload_n 0, []), (21, .getfield 10, [3, 0, 152]), (24, .iload_n 1, []), (25, .iload_n 2, []), (26, .invokevirtual 68, [15, 220, 221, 222]), (29, .iconst 1, []), (30, .isub, []), (31, .invokestatic 46, [93, 184, 185]), (34, .ifCond .ne 5, [21]), (37, .iconst (-1), []), (38, .ireturn, []), (39, .aload_n 0, []), (40, .getfield 10, [3, 0, 152]), (43, .iload_n 1, []), (44, .iload_n 2, []), (45, .invokevirtual 72, [16, 227, 228, 229]), (48, .istore 4, []), (50, .aload_n 0, []), (51, .getfield 10, [3, 0, 152]), (54, .iload_n 1, []), (55, .iload_n 2, []), (56, .iload_n 3, []), (57, .invokevirtual 75, [17, 231, 202, 203]), (60, .iload 4, []), (62, .ireturn, [])]
def zk_68 : List zR := [(0, .aload_n 0, []), (1, .getfield 10, [3, 0, 152]), (4, .iload_n 1, []), (5, .invokevirtual 62, [12, 213, 214, 215]), (8, .ifCond .ne 5, [7]), (11, .iconst (-1), []), (12, .ireturn, []), (13, .iload_n 2, []), (14, .tableswitch 106 0 7 #[46, 55, 55, 67, 67, 79, 88, 97], [45, 9, 14, 14, 22, 22, 30, 35, 40, 46]), (60, .aload_n 0, []), (61, .getfield 10, [3, 0, 152]), (64, .iload_n 1, []), (65, .invokevirtual 79, [14, 236, 237, 238]), (68, .ireturn, []), (69, .aload_n 0, []), (70, .getfield 10, [3, 0, 152]), (73, .iload_n 1, []), (74, .iload_n 2, []), (75, .iconst 1, []), (76, .isub, []), (77, .invokevirtual 68, [15, 220, 221, 222]), (80, .ireturn, []), (81, .aload_n 0, []), (82, .getfield 10, [3, 0, 152]), (85, .iload_n 1, []), (86, .iload_n 2, []), (87, .iconst 3, []), (88, .isub, []), (89, .invokevirtual 72, [16, 227, 228, 229]), (92, .ireturn, []), (93, .aload_n 0, []), (94, .getfield 10, [3, 0, 152]), (97, .iload_n 1, []), (98, .invokevirtual 83, [22, 240, 241, 242]), (101, .ireturn, []), (102, .aload_n 0, []), (103, .getfield 10, [3, 0, 152]), (106, .iload_n 1, []), (107, .invokevirtual 86, [24, 244, 245, 246]), (110, .ireturn, []), (111, .aload_n 0, []), (112, .getfield 10, [3, 0, 152]), (115, .iload_n 1, []), (116, .invokevirtual 89, [18, 248, 249, 250]), (119, .ireturn, []), (120, .iconst (-1), []), (121, .ireturn, [])]
def zk_69 : List zR := [(0, .aload_n 0, []), (1, .getfield 10, [3, 0, 152]), (4, .iload_n 1, []), (5, .invokevirtual 62, [12, 213, 214, 215]), (8, .ifCond .eq 12, [10]), (11, .iload_n 2, []), (12, .iconst (-1), []), (13, .iconst 1, []), (14, .invokestatic 46, [93, 184, 185]), (17, .ifCond .ne 5, [12]), (20, .iconst (-1), []), (21, .ireturn, []), (22, .aload_n 0, []), (23, .getfield 10, [3, 0, 152]), (26, .iload_n 1, []), (27, .invokevirtual 92, [23, 256, 257, 258]), (30, .ifCond .eq 6, [19]), (33, .bipush (-2), []), (35, .ireturn, []), (36, .aload_n 0, []), (37, .getfield 10, [3, 0, 152]), (40, .iload_n 1, []), (41, .invokevirtual 89, [18, 248, 249, 250]), (44, .istore_n 3, []), (45, .aload_n 0, []), (46, .getfield 10, [3, 0, 152]), (49, .iload_n 1, []), (50, .iload_n 2, []), (51, .ifCond .ge 8, [31]), (54, .bipush (-4), []), (56, .goto 4, [32]), (59, .iload_n 2, []), (60, .invokevirtual 95, [19, 261, 262, 263]), (63, .iload_n 3, []), (64, .ireturn, [])]
def zk_70 : List zR := [(0, .iload_n 3, []), (1, .iconst 1, []), (2, .bipush 8, []), (4, .invokestatic 46, [93, 184, 185]), (7, .ifCond .ne 5, [7]), (10, .iconst (-1), []), (11, .ireturn, []), (12, .iconst 0, []), (13, .istore 4, []), (15, .iload 4, []), (17, .iload_n 3, []), (18, .if_icmp .ge 27, [23]), (21, .lload_n 1, []), (22, .iload 4, []), (24, .invokestatic 99, [98, 269, 270]), (27, .bipush 32, []), (29, .bipush 126, []), (31, .invokestatic 46, [93, 184, 185]), (34, .ifCond .ne 5, [21]), (37, .iconst (-1), []), (38, .ireturn, []), (39, .iinc 4 1, []), (42, .goto (-27), [9]), (45, .aload_n 0, []), (46, .getfield 28, [3, 5, 157]), (49, .invokevirtual 103, [56, 272, 273, 274]), (52, .iload_n 3, []), (53, .iadd, []), (54, .bipush 80, []), (56, .if_icmp .le 6, [32]), (59, .bipush (-3), []), (61, .ireturn, []), (62, .iload_n 3, []), (63, .iconst 1, []), (64, .isub, []), (65, .istore 4, []), (67, .iload 4, []), (69, .ifCond .lt 22, [46]), (72, .aload_n 0, []), (73, .getfield 28, [3, 5, 157]), (76, .lload_n 1, []), (77, .iload 4, []), (79, .invokestatic 99, [98, 269, 270]), (82, .invokevirtual 107, [57, 276, 277, 278]), (85, .iinc 4 (-1), []), (88, .goto (-21), [36]), (91, .aload_n 0, []), (92, .getfield 28, [3, 5, 157]), (95, .invokevirtual 103, [56, 272, 273, 274]), (98, .ireturn, [])]
def zk_71 : List zR := [(0, .aload_n 0, []), (1, .getfield 19, [3, 3, 155]), (4, .aload_n 0, []), (5, .getfield 10, [3, 0, 152]), (8, .invokevirtual 111, [6, 285, 286, 287]), (11, .aload_n 0, []), (12, .getfield 19, [3, 3, 155]), (15, .invokevirtual 115, [7, 298, 299, 300]), (18, .aload_n 0, []), (19, .getfield 28, [3, 5, 157]), (22, .aload_n 0, []), (23, .getfield 19, [3, 3, 155]), (26, .invokevirtual 118, [59, 302, 303, 304]), (29, .istore_n 1, []), (30, .aload_n 0, []), (31, .getfield 28, [3, 5, 157]), (34, .invokevirtual 122, [58, 339, 340, 341]), (37, .iload_n 1, []), (38, .ifCond .le 14, [24]), (41, .aload_n 0, []), (42, .getfield 10, [3, 0, 152]), (45, .aload_n 0, []), (46, .getfield 19, [3, 3, 155]), (49, .invokevirtual 111, [6, 285, 286, 287]), (52, .iload_n 1, []), (53, .ireturn, [])]
def zk_72 : List zR := [(0, .iload_n 1, []), (1, .tableswitch 109 0 7 #[47, 55, 63, 63, 74, 74, 85, 93], [36, 2, 6, 10, 10, 17, 17, 24, 28, 47]), (48, .aload_n 0, []), (49, .getfield 10, [3, 0, 152]), (52, .invokevirtual 125, [11, 347, 336, 337]), (55, .ireturn, []), (56, .aload_n 0, []), (57, .getfield 10, [3, 0, 152]), (60, .invokevirtual 128, [26, 348, 349, 350]), (63, .ireturn, []), (64, .aload_n 0, []), (65, .getfield 10, [3, 0, 152]), (68, .iload_n 1, []), (69, .iconst 2, []), (70, .isub, []), (71, .invokevirtual 131, [20, 352, 353, 354]), (74, .ireturn, []), (75, .aload_n 0, []), (76, .getfield 10, [3, 0, 152]), (79, .iload_n 1, []), (80, .iconst 4, []), (81, .isub, []), (82, .invokevirtual 134, [21, 357, 358, 359]), (85, .ireturn, []), (86, .aload_n 0, []), (87, .getfield 10, [3, 0, 152]), (90, .invokevirtual 137, [39, 361, 362, 363]), (93, .ireturn, []), (94, .aload_n 0, []), (95, .getfield 10, [3, 0, 152]), (98, .invokevirtual 140, [28, 370, 371, 372]), (101, .ifCond .eq 7, [34]), (104, .iconst 1, []), (105, .goto 4, [35]), (108, .iconst 0, []), (109, .ireturn, []), (110, .iconst (-1), []), (111, .ireturn, [])]
def zk_73 : List zR := [(0, .aload_n 0, []), (1, .getfield 10, [3, 0, 152]), (4, .iload_n 1, []), (5, .invokevirtual 62, [12, 213, 214, 215]), (8, .ifCond .eq 10, [8]), (11, .iload_n 2, []), (12, .invokestatic 65, [95, 217, 218]), (15, .ifCond .ne 5, [10]), (18, .iconst (-1), []), (19, .ireturn, []), (20, .aload_n 0, []), (21, .getfield 10, [3, 0, 152]), (24, .iload_n 1, []), (25, .invokevirtual 92, [23, 256, 257, 258]), (28, .ifCond .ne 13, [19]), (31, .aload_n 0, []), (32, .getfield 10, [3, 0, 152]), (35, .invokevirtual 140, [28, 370, 371, 372]), (38, .ifCond .eq 6, [21]), (41, .bipush (-2), []), (43, .ireturn, []), (44, .aload_n 0, []), (45, .getfield 10, [3, 0, 152]), (48, .iload_n 1, []), (49, .iload_n 2, []), (50, .invokevirtual 143, [34, 378, 379, 380]), (53, .ifCond .eq 7, [29]), (56, .iconst 1, []), (57, .goto 4, [30]), (60, .iconst 0, []), (61, .ireturn, [])]
def zk_74 : List zR := [(0, .aload_n 0, []), (1, .iload_n 1, []), (2, .iload_n 2, []), (3, .invokevirtual 147, [73, 397, 375, 376]), (6, .istore_n 3, []), (7, .iload_n 3, []), (8, .ifCond .ge 5, [9]), (11, .iload_n 3, []), (12, .ireturn, []), (13, .iload_n 3, []), (14, .ifCond .ne 8, [13]), (17, .bipush (-4), []), (19, .goto 12, [18]), (22, .aload_n 0, []), (23, .getfield 10, [3, 0, 152]), (26, .iload_n 1, []), (27, .iload_n 2, []), (28, .invokevirtual 150, [37, 398, 399, 400]), (31, .ireturn, [])]
def zk_75 : List zR := [(0, .iload_n 1, []), (1, .iconst 1, []), (2, .bipush 12, []), (4, .invokestatic 46, [93, 184, 185]), (7, .ifCond .ne 5, [7]), (10, .iconst (-1), []), (11, .ireturn, []), (12, .iload_n 1, []), (13, .aload_n 0, []), (14, .getfield 10, [3, 0, 152]), (17, .invokevirtual 128, [26, 348, 349, 350]), (20, .if_icmp .le 6, [14]), (23, .bipush (-2), []), (25, .ireturn, []), (26, .aload_n 0, []), (27, .getfield 10, [3, 0, 152]), (30, .iload_n 1, []), (31, .invokevirtual 153, [40, 455, 456, 457]), (34, .aload_n 0, []), (35, .getfield 10, [3, 0, 152]), (38, .invokevirtual 128, [26, 348, 349, 350]), (41, .ireturn, [])]
def zk_76 : List zR := [(0, .iload_n 1, []), (1, .ifCond .eq 16, [8]), (4, .aload_n 0, []), (5, .getfield 10, [3, 0, 152]), (8, .invokevirtual 156, [36, 463, 464, 465]), (11, .ifCond .ne 6, [8]), (14, .bipush (-2), []), (16, .ireturn, []), (17, .aload_n 0, []), (18, .getfield 10, [3, 0, 152]), (21, .invokevirtual 140, [28, 370, 371, 372]), (24, .ifCond .eq 7, [14]), (27, .iconst 1, []), (28, .goto 4, [15]), (31, .iconst 0, []), (32, .istore_n 2, []), (33, .aload_n 0, []), (34, .getfield 10, [3, 0, 152]), (37, .iload_n 1, []), (38, .invokevirtual 159, [29, 467, 468, 469]), (41, .iload_n 2, []), (42, .ireturn, [])]
def zk_77 : List zR := [(0, .aload_n 0, []), (1, .getfield 10, [3, 0, 152]), (4, .invokevirtual 128, [26, 348, 349, 350]), (7, .ifCond .ne 8, [6]), (10, .bipush (-4), []), (12, .goto 17, [12]), (15, .aload_n 0, []), (16, .getfield 10, [3, 0, 152]), (19, .aload_n 0, []), (20, .getfield 10, [3, 0, 152]), (23, .invokevirtual 163, [43, 475, 403, 404]), (26, .invokevirtual 166, [44, 476, 415, 416]), (29, .ireturn, [])]
def zk_78 : List zR := [(0, .iload_n 1, []), (1, .bipush (-99), []), (3, .bipush 99, []), (5, .invokestatic 46, [93, 184, 185]), (8, .ifCond .ne 5, [7]), (11, .iconst (-1), []), (12, .ireturn, []), (13, .aload_n 0, []), (14, .getfield 10, [3, 0, 152]), (17, .invokevirtual 128, [26, 348, 349, 350]), (20, .ifCond .ne 6, [13]), (23, .bipush (-4), []), (25, .ireturn, []), (26, .iload_n 1, []), (27, .ifCond .eq 25, [26]), (30, .aload_n 0, []), (31, .getfield 10, [3, 0, 152]), (34, .iload_n 1, []), (35, .ifCond .ge 7, [21]), (38, .iconst (-1), []), (39, .goto 4, [22]), (42, .iconst 1, []), (43, .invokevirtual 166, [44, 476, 415, 416]), (46, .ifCond .eq 6, [26]), (49, .bipush (-2), []), (51, .ireturn, []), (52, .aload_n 0, []), (53, .getfield 10, [3, 0, 152]), (56, .iload_n 1, []), (57, .invokevirtual 169, [46, 481, 423, 424]), (60, .aload_n 0, []), (61, .getfield 10, [3, 0, 152]), (64, .invokevirtual 137, [39, 361, 362, 363]), (67, .ireturn, [])]
def zk_79 : List zR := [(0, .aload_n 0, []), (1, .invokevirtual 172, [100, 486, 488, 13]), (4, .istore_n 1, []), (5, .iload_n 1, []), (6, .ifCond .eq 7, [7]), (9, .iload_n 1, []), (10, .goto 10, [10]), (13, .aload_n 0, []), (14, .getfield 10, [3, 0, 152]), (17, .invokevirtual 175, [49, 490, 491, 492]), (20, .ireturn, [])]
def zk_80 : List zR := [(0, .aload_n 0, []), (1, .invokevirtual 172, [100, 486, 488, 13]), (4, .istore_n 1, []), (5, .iload_n 1, []), (6, .ifCond .eq 7, [7]), (9, .iload_n 1, []), (10, .goto 10, [10]), (13, .aload_n 0, []), (14, .getfield 10, [3, 0, 152]), (17, .invokevirtual 178, [51, 501, 502, 503]), (20, .ireturn, [])]
def zk_81 : List zR := [(0, .iload_n 1, []), (1, .invokestatic 181, [96, 513, 448]), (4, .ifCond .eq 12, [8]), (7, .iload_n 2, []), (8, .iconst 0, []), (9, .iconst 2, []), (10, .invokestatic 46, [93, 184, 185]), (13, .ifCond .ne 5, [10]), (16, .iconst (-1), []), (17, .ireturn, []), (18, .aload_n 0, []), (19, .getfield 10, [3, 0, 152]), (22, .invokevirtual 140, [28, 370, 371, 372]), (25, .ifCond .eq 6, [16]), (28, .bipush (-2), []), (30, .ireturn, []), (31, .bipush (-4), []), (33, .istore_n 3, []), (34, .iconst 0, []), (35, .istore 4, []), (37, .iconst 0, []), (38, .istore 5, []), (40, .iload 5, []), (42, .bipush 24, []), (44, .if_icmp .ge 51, [48]), (47, .aload_n 0, []), (48, .getfield 10, [3, 0, 152]), (51, .iload_n 1, []), (52, .iload 5, []), (54, .invokevirtual 184, [35, 514, 515, 516]), (57, .ifCond .eq 32, [46]), (60, .aload_n 0, []), (61, .iload_n 1, []), (62, .iload 5, []), (64, .invokevirtual 187, [101, 520, 522, 15]), (67, .istore 6, []), (69, .iload_n 3, []), (70, .bipush (-4), []), (72, .if_icmp .eq 10, [42]), (75, .iload 6, []), (77, .iload 4, []), (79, .if_icmp .le 10, [46]), (82, .iload 5, []), (84, .istore_n 3, []), (85, .iload 6, []), (87, .istore 4, []), (89, .iinc 5 1, []), (92, .goto (-52), [22]), (95, .iload_n 3, []), (96, .bipush (-4), []), (98, .if_icmp .ne 6, [53]), (101, .bipush (-4), []), (103, .ireturn, []), (104, .iload_n 2, []), (105, .ifCond .ne 9, [59]), (108, .iload_n 3, []), (109, .iconst 2, []), (110, .idiv, []), (111, .goto 19, [69]), (114, .iload_n 2, []), (115, .iconst 1, []), (116, .if_icmp .ne 9, [66]), (119, .iload_n 3, []), (120, .iconst 2, []), (121, .irem, []), (122, .goto 8, [69]), (125, .iload 4, []), (127, .bipush 100, []), (129, .iadd, []), (130, .ireturn, [])]
def zk_82 : List zR := [(0, .aload_n 0, []), (1, .getfield 10, [3, 0, 152]), (4, .iload_n 1, []), (5, .invokevirtual 62, [12, 213, 214, 215]), (8, .ifCond .eq 14, [10]), (11, .aload_n 0, []), (12, .getfield 10, [3, 0, 152]), (15, .iload_n 1, []), (16, .invokevirtual 92, [23, 256, 257, 258]), (19, .ifCond .ne 5, [12]), (22, .iconst (-1), []), (23, .ireturn, []), (24, .iload_n 2, []), (25, .iconst 0, []), (26, .aload_n 0, []), (27, .getfield 10, [3, 0, 152]), (30, .iload_n 1, []), (31, .aload_n 0, []), (32, .getfield 10, [3, 0, 152]), (35, .iload_n 1, []), (36, .invokevirtual 190, [25, 531, 438, 439]), (39, .invokevirtual 68, [15, 220, 221, 222]), (42, .iconst 1, []), (43, .isub, []), (44, .invokestatic 46, [93, 184, 185]), (47, .ifCond .ne 5, [28]), (50, .iconst (-1), []), (51, .ireturn, []), (52, .aload_n 0, []), (53, .invokevirtual 172, [100, 486, 488, 13]), (56, .istore_n 3, []), (57, .iload_n 3, []), (58, .ifCond .eq 7, [35]), (61, .iload_n 3, []), (62, .goto 12, [40]), (65, .aload_n 0, []), (66, .getfield 10, [3, 0, 152]), (69, .iload_n 1, []), (70, .iload_n 2, []), (71, .invokevirtual 193, [53, 532, 533, 534]), (74, .ireturn, [])]
def zk_83 : List zR := [(0, .iload_n 1, []), (1, .iconst 1, []), (2, .bipush 24, []), (4, .invokestatic 46, [93, 184, 185]), (7, .ifCond .ne 5, [7]), (10, .iconst (-1), []), (11, .ireturn, []), (12, .aload_n 0, []), (13, .getfield 10, [3, 0, 152]), (16, .invokevirtual 140, [28, 370, 371, 372]), (19, .ifCond .eq 6, [13]), (22, .bipush (-2), []), (24, .ireturn, []), (25, .iconst 0, []), (26, .istore_n 2, []), (27, .iconst 0, []), (28, .istore_n 3, []), (29, .iload_n 3, []), (30, .iload_n 1, []), (31, .if_icmp .ge 25, [30]), (34, .aload_n 0, []), (35, .getfield 10, [3, 0, 152]), (38, .iload_n 3, []), (39, .iconst 2, []), (40, .irem, []), (41, .invokevirtual 196, [54, 540, 541, 542]), (44, .ifCond .eq 6, [28]), (47, .iinc 2 1, []), (50, .iinc 3 1, []), (53, .goto (-24), [17]), (56, .iload_n 2, []), (57, .ireturn, [])]
def zk_84 : List zR := [(0, .iload_n 1, []), (1, .ifCond .ge 5, [4]), (4, .iconst (-1), []), (5, .ireturn, []), (6, .aload_n 0, []), (7, .getfield 10, [3, 0, 152]), (10, .invokevirtual 199, [30, 557, 558, 559]), (13, .istore_n 2, []), (14, .aload_n 0, []), (15, .getfield 10, [3, 0, 152]), (18, .iload_n 1, []), (19, .invokevirtual 202, [31, 561, 562, 563]), (22, .iload_n 2, []), (23, .ireturn, [])]
def zk_85 : List zR := [(0, .aload_n 0, []), (1, .getfield 16, [3, 1, 153]), (4, .aload_n 0, []), (5, .getfield 10, [3, 0, 152]), (8, .invokevirtual 111, [6, 285, 286, 287]), (11, .aload_n 0, []), (12, .iconst 1, []), (13, .putfield 205, [3, 2, 154]), (16, .iconst 1, []), (17, .ireturn, [])]
def zk_86 : List zR := [(0, .aload_n 0, []), (1, .getfield 205, [3, 2, 154]), (4, .ifCond .ne 6, [5]), (7, .bipush (-4), []), (9, .ireturn, []), (10, .aload_n 0, []), (11, .getfield 10, [3, 0, 152]), (14, .aload_n 0, []), (15, .getfield 16, [3, 1, 153]), (18, .invokevirtual 111, [6, 285, 286, 287]), (21, .iconst 1, []), (22, .ireturn, [])]
def zk_87 : List zR := [(0, .aload_n 0, []), (1, .iload_n 1, []), (2, .invokevirtual 209, [99, 577, 579, 17]), (5, .astore 5, []), (7, .aload 5, []), (9, .ifnull 21, [14]), (12, .iload_n 2, []), (13, .invokestatic 213, [97, 581, 582]), (16, .ifCond .eq 14, [14]), (19, .iload 4, []), (21, .iconst 1, []), (22, .bipush 12, []), (24, .invokestatic 46, [93, 184, 185]), (27, .ifCond .ne 5, [16]), (30, .iconst (-1), []), (31, .ireturn, []), (32, .aload 5, []), (34, .iload_n 2, []), (35, .iload_n 3, []), (36, .iconst 2, []), (37, .iload 4, []), (39, .imul, []), (40, .invokevirtual 216, [3, 584, 585, 586]), (43, .istore 6, []), (45, .iload 6, []), (47, .ifCond .eq 6, [28]), (50, .iload 6, []), (52, .ireturn, []), (53, .iconst 0, []), (54, .istore 7, []), (56, .iload 7, []), (58, .iload 4, []), (60, .if_icmp .ge 52, [59]), (63, .aload_n 0, []), (64, .getfield 10, [3, 0, 152]), (67, .aload 5, []), (69, .iload_n 3, []), (70, .iconst 2, []), (71, .iload 7, []), (73, .imul, []), (74, .iadd, []), (75, .invokevirtual 219, [4, 588, 589, 590]), (78, .invokevirtual 62, [12, 213, 214, 215]), (81, .ifCond .eq 22, [55]), (84, .aload 5, []), (86, .iload_n 3, []), (87, .iconst 2, []), (88, .iload 7, []), (90, .imul, []), (91, .iadd, []), (92, .iconst 1, []), (93, .iadd, []), (94, .invokevirtual 219, [4, 588, 589, 590]), (97, .invokestatic 65, [95, 217, 218]), (100, .ifCond .ne 6, [57]), (103, .bipush (-2), []), (105, .ireturn, []), (106, .iinc 7 1, []), (109, .goto (-53), [30]), (112, .aload_n 0, []), (113, .aload 5, []), (115, .iload_n 3, []), (116, .iload 4, []), (118, .invokevirtual 222, [102, 593, 595, 18]), (121, .ireturn, [])]
def zk_88 : List zR := [(0, .aload_n 0, []), (1, .iload_n 2, []), (2, .invokevirtual 209, [99, 577, 579, 17]), (5, .astore 6, []), (7, .iload_n 1, []), (8, .invokestatic 226, [175, 601, 602]), (11, .istore 7, []), (13, .aload 6, []), (15, .ifnull 21, [17]), (18, .iload_n 3, []), (19, .invokestatic 213, [97, 581, 582]), (22, .ifCond .eq 14, [17]), (25, .aload_n 0, []), (26, .getfield 10, [3, 0, 152]), (29, .iload_n 1, []), (30, .invokevirtual 231, [13, 607, 608, 609]), (33, .ifCond .ne 5, [19]), (36, .iconst (-1), []), (37, .ireturn, []), (38, .iload 7, []), (40, .iconst 2, []), (41, .iconst 5, []), (42, .invokestatic 46, [93, 184, 185]), (45, .ifCond .eq 16, [31]), (48, .iload 5, []), (50, .iconst (-1), []), (51, .iload 7, []), (53, .iconst 1, []), (54, .isub, []), (55, .invokestatic 46, [93, 184, 185]), (58, .ifCond .ne 5, [33]), (61, .iconst (-1), []), (62, .ireturn, []), (63, .aload 6, []), (65, .iload_n 3, []), (66, .iload 4, []), (68, .iconst 2, []), (69, .iload 7, []), (71, .imul, []), (72, .invokevirtual 216, [3, 584, 585, 586]), (75, .istore 8, []), (77, .iload 8, []), (79, .ifCond .eq 6, [45]), (82, .iload 8, []), (84, .ireturn, []), (85, .aload_n 0, []), (86, .iload_n 1, []), (87, .iload 7, []), (89, .aload 6, []), (91, .iload 4, []), (93, .invokevirtual 234, [103, 611, 613, 19]), (96, .istore 9, []), (98, .iload 9, []), (100, .ifCond .ne 6, [56]), (103, .bipush (-4), []), (105, .ireturn, []), (106, .iload 5, []), (108, .ifCond .ge 8, [60]), (111, .iload 9, []), (113, .goto 12, [64]), (116, .aload_n 0, []), (117, .getfield 42, [3, 8, 160]), (120, .iload 5, []), (122, .invokestatic 238, [109, 627, 225]), (125, .ireturn, [])]
def zk_89 : List zR := [(0, .aload_n 0, []), (1, .iload_n 1, []), (2, .invokevirtual 209, [99, 577, 579, 17]), (5, .astore 4, []), (7, .aload 4, []), (9, .ifnull 16, [12]), (12, .iload_n 2, []), (13, .invokestatic 213, [97, 581, 582]), (16, .ifCond .eq 9, [12]), (19, .iload_n 3, []), (20, .bipush 24, []), (22, .if_icmp .le 5, [14]), (25, .iconst (-1), []), (26, .ireturn, []), (27, .iload_n 3, []), (28, .ifCond .ge 6, [18]), (31, .bipush (-14), []), (33, .ireturn, []), (34, .aload 4, []), (36, .iload_n 2, []), (37, .iload_n 3, []), (38, .invokevirtual 242, [1, 641, 642, 643]), (41, .iload_n 3, []), (42, .ireturn, [])]
def zk_90 : List zR := [(0, .aload_n 0, []), (1, .iload_n 1, []), (2, .invokevirtual 209, [99, 577, 579, 17]), (5, .astore_n 2, []), (6, .aload_n 2, []), (7, .ifnonnull 5, [8]), (10, .iconst (-1), []), (11, .ireturn, []), (12, .aload_n 2, []), (13, .invokevirtual 245, [0, 650, 651, 652]), (16, .ifCond .eq 8, [13]), (19, .bipush (-11), []), (21, .goto 7, [15]), (24, .aload_n 2, []), (25, .invokevirtual 248, [2, 654, 655, 656]), (28, .ireturn, [])]
def zk_91 : List zR := [(0, .aload_n 0, []), (1, .iload_n 1, []), (2, .invokevirtual 209, [99, 577, 579, 17]), (5, .astore 5, []), (7, .aload 5, []), (9, .ifnull 10, [9]), (12, .iload_n 2, []), (13, .invokestatic 213, [97, 581, 582]), (16, .ifCond .ne 5, [11]), (19, .iconst (-1), []), (20, .ireturn, []), (21, .aload 5, []), (23, .iload_n 2, []), (24, .iload_n 3, []), (25, .iconst 1, []), (26, .invokevirtual 216, [3, 584, 585, 586]), (29, .istore 6, []), (31, .iload 6, []), (33, .ifCond .eq 6, [21]), (36, .iload 6, []), (38, .ireturn, []), (39, .aload 5, []), (41, .iload_n 3, []), (42, .iload 4, []), (44, .invokevirtual 251, [5, 662, 663, 664]), (47, .iconst 1, []), (48, .ireturn, [])]
def zk_92 : List zR := [(0, .aload_n 0, []), (1, .iload_n 1, []), (2, .invokevirtual 209, [99, 577, 579, 17]), (5, .astore 4, []), (7, .aload 4, []), (9, .ifnull 10, [9]), (12, .iload_n 2, []), (13, .invokestatic 213, [97, 581, 582]), (16, .ifCond .ne 5, [11]), (19, .iconst (-1), []), (20, .ireturn, []), (21, .iconst 2, []), (22, .aload_n 0, []), (23, .getfield 10, [3, 0, 152]), (26, .invokevirtual 128, [26, 348, 349, 350]), (29, .imul, []), (30, .istore 5, []), (32, .aload 4, []), (34, .iload_n 2, []), (35, .iload_n 3, []), (36, .iload 5, []), (38, .invokevirtual 216, [3, 584, 585, 586]), (41, .istore 6, []), (43, .iload 6, []), (45, .ifCond .eq 6, [27]), (48, .iload 6, []), (50, .ireturn, []), (51, .iconst 0, []), (52, .istore 7, []), (54, .iload 7, []), (56, .aload_n 0, []), (57, .getfield 10, [3, 0, 152]), (60, .invokevirtual 128, [26, 348, 349, 350]), (63, .if_icmp .ge 80, [73]), (66, .aload_n 0, []), (67, .getfield 10, [3, 0, 152]), (70, .iload 7, []), (72, .invokevirtual 254, [27, 670, 366, 367]), (75, .istore 8, []), (77, .aload 4, []), (79, .iload_n 3, []), (80, .iconst 2, []), (81, .iload 7, []), (83, .imul, []), (84, .iadd, []), (85, .aload_n 0, []), (86, .getfield 10, [3, 0, 152]), (89, .iload 8, []), (91, .aload_n 0, []), (92, .getfield 10, [3, 0, 152]), (95, .iload 8, []), (97, .invokevirtual 86, [24, 244, 245, 246]), (100, .invokevirtual 72, [16, 227, 228, 229]), (103, .invokevirtual 251, [5, 662, 663, 664]), (106, .aload 4, []), (108, .iload_n 3, []), (109, .iconst 2, []), (110, .iload 7, []), (112, .imul, []), (113, .iadd, []), (114, .iconst 1, []), (115, .iadd, []), (116, .aload_n 0, []), (117, .getfield 10, [3, 0, 152]), (120, .iload 8, []), (122, .aload_n 0, []), (123, .getfield 10, [3, 0, 152]), (126, .iload 8, []), (128, .invokevirtual 190, [25, 531, 438, 439]), (131, .invokevirtual 72, [16, 227, 228, 229]), (134, .invokevirtual 251, [5, 662, 663, 664]), (137, .iinc 7 1, []), (140, .goto (-86), [29]), (143, .iload 5, []), (145, .ireturn, [])]
def zk_93 : List zR := [(0, .iload_n 0, []), (1, .iload_n 1, []), (2, .if_icmp .lt 12, [8]), (5, .iload_n 0, []), (6, .iload_n 2, []), (7, .if_icmp .gt 7, [8]), (10, .iconst 1, []), (11, .goto 4, [9]), (14, .iconst 0, []), (15, .ireturn, [])]
def zk_94 : List zR := [(0, .iload_n 0, []), (1, .iconst 3, []), (2, .bipush 9, []), (4, .invokestatic 46, [93, 184, 185]), (7, .ireturn, [])]
def zk_95 : List zR := [(0, .iload_n 0, []), (1, .iconst 0, []), (2, .iconst 1, []), (3, .invokestatic 46, [93, 184, 185]), (6, .ireturn, [])]
def zk_96 : List zR := [(0, .iload_n 0, []), (1, .iconst 0, []), (2, .iconst 1, []), (3, .invokestatic 46, [93, 184, 185]), (6, .ireturn, [])]
def zk_97 : List zR := [(0, .iload_n 0, []), (1, .iconst 0, []), (2, .iconst 2, []), (3, .invokestatic 46, [93, 184, 185]), (6, .ireturn, [])]
def zk_98 : List zR := [(0, .lload_n 0, []), (1, .bipush 8, []), (3, .iload_n 2, []), (4, .imul, []), (5, .lushr, []), (6, .l2i, []), (7, .sipush 255, []), (10, .iand, []), (11, .ireturn, [])]
def zk_99 : List zR := [(0, .iload_n 1, []), (1, .ifCond .lt 21, [12]), (4, .iload_n 1, []), (5, .aload_n 0, []), (6, .getfield 34, [3, 6, 158]), (9, .arraylength, []), (10, .if_icmp .ge 12, [12]), (13, .aload_n 0, []), (14, .getfield 34, [3, 6, 158]), (17, .iload_n 1, []), (18, .aaload, []), (19, .goto 4, [13]), (22, .aconst_null, []), (23, .areturn, [])]
def zk_100 : List zR := [(0, .aload_n 0, []), (1, .getfield 10, [3, 0, 152]), (4, .invokevirtual 128, [26, 348, 349, 350]), (7, .ifCond .ne 6, [6]), (10, .bipush (-4), []), (12, .ireturn, []), (13, .aload_n 0, []), (14, .getfield 10, [3, 0, 152]), (17, .iconst 1, []), (18, .invokevirtual 166, [44, 476, 415, 416]), (21, .ifCond .eq 8, [13]), (24, .bipush (-2), []), (26, .goto 4, [14]), (29, .iconst 0, []), (30, .ireturn, [])]
def zk_101 : List zR := [(0, .aload_n 0, []), (1, .getfield 19, [3, 3, 155]), (4, .aload_n 0, []), (5, .getfield 10, [3, 0, 152]), (8, .invokevirtual 111, [6, 285, 286, 287]), (11, .aload_n 0, []), (12, .getfield 19, [3, 3, 155]), (15, .iload_n 2, []), (16, .iconst 2, []), (17, .idiv, []), (18, .iload_n 2, []), (19, .iconst 2, []), (20, .irem, []), (21, .invokevirtual 150, [37, 398, 399, 400]), (24, .istore_n 3, []), (25, .iconst 0, []), (26, .istore 4, []), (28, .iconst 0, []), (29, .istore 5, []), (31, .iload 5, []), (33, .bipush 24, []), (35, .if_icmp .ge 57, [49]), (38, .aload_n 0, []), (39, .getfield 19, [3, 3, 155]), (42, .iconst 1, []), (43, .iload_n 1, []), (44, .isub, []), (45, .iload 5, []), (47, .invokevirtual 184, [35, 514, 515, 516]), (50, .ifCond .eq 36, [47]), (53, .aload_n 0, []), (54, .getfield 22, [3, 4, 156]), (57, .aload_n 0, []), (58, .getfield 19, [3, 3, 155]), (61, .invokevirtual 111, [6, 285, 286, 287]), (64, .iload 4, []), (66, .aload_n 0, []), (67, .getfield 22, [3, 4, 156]), (70, .iload 5, []), (72, .iconst 2, []), (73, .idiv, []), (74, .iload 5, []), (76, .iconst 2, []), (77, .irem, []), (78, .invokevirtual 150, [37, 398, 399, 400]), (81, .invokestatic 257, [178, 524, 525]), (84, .istore 4, []), (86, .iinc 5 1, []), (89, .goto (-58), [19]), (92, .iload_n 3, []), (93, .iload 4, []), (95, .isub, []), (96, .ireturn, [])]
def zk_102 : List zR := [(0, .aload_n 0, []), (1, .getfield 19, [3, 3, 155]), (4, .aload_n 0, []), (5, .getfield 10, [3, 0, 152]), (8, .invokevirtual 111, [6, 285, 286, 287]), (11, .aload_n 0, []), (12, .getfield 19, [3, 3, 155]), (15, .aload_n 0, []), (16, .getfield 19, [3, 3, 155]), (19, .invokevirtual 128, [26, 348, 349, 350]), (22, .invokevirtual 153, [40, 455, 456, 457]), (25, .iconst 0, []), (26, .istore 4, []), (28, .iload 4, []), (30, .iload_n 3, []), (31, .if_icmp .ge 76, [55]), (34, .aload_n 1, []), (35, .iload_n 2, []), (36, .iconst 2, []), (37, .iload 4, []), (39, .imul, []), (40, .iadd, []), (41, .invokevirtual 219, [4, 588, 589, 590]), (44, .istore 5, []), (46, .aload_n 1, []), (47, .iload_n 2, []), (48, .iconst 2, []), (49, .iload 4, []), (51, .imul, []), (52, .iadd, []), (53, .iconst 1, []), (54, .iadd, []), (55, .invokevirtual 219, [4, 588, 589, 590]), (58, .istore 6, []), (60, .aload_n 0, []), (61, .getfield 19, [3, 3, 155]), (64, .iload 5, []), (66, .invokevirtual 92, [23, 256, 257, 258]), (69, .ifCond .ne 17, [45]), (72, .aload_n 0, []), (73, .getfield 19, [3, 3, 155]), (76, .iload 5, []), (78, .iload 6, []), (80, .invokevirtual 143, [34, 378, 379, 380]), (83, .ifCond .ne 6, [47]), (86, .iload 4, []), (88, .ireturn, []), (89, .aload_n 0, []), (90, .getfield 19, [3, 3, 155]), (93, .iload 5, []), (95, .iload 6, []), (97, .invokevirtual 150, [37, 398, 399, 400]), (100, .pop, []), (101, .iinc 4 1, []), (104, .goto (-76), [13]), (107, .bipush (-4), []), (109, .ireturn, [])]
def zk_103 : List zR := [(0, .aload_n 0, []), (1, .getfield 19, [3, 3, 155]), (4, .aload_n 0, []), (5, .getfield 10, [3, 0, 152]), (8, .invokevirtual 111, [6, 285, 286, 287]), (11, .aload_n 0, []), (12, .getfield 19, [3, 3, 155]), (15, .aload_n 0, []), (16, .getfield 19, [3, 3, 155]), (19, .invokevirtual 128, [26, 348, 349, 350]), (22, .invokevirtual 153, [40, 455, 456, 457]), (25, .aload_n 0, []), (26, .iload_n 1, []), (27, .invokevirtual 262, [104, 615, 617, 20]), (30, .iconst 0, []), (31, .istore 5, []), (33, .iconst 1, []), (34, .istore 6, []), (36, .iconst 0, []), (37, .istore 7, []), (39, .iload 7, []), (41, .bipush 120, []), (43, .if_icmp .ge 52, [46]), (46, .iload 6, []), (48, .ifCond .eq 47, [46]), (51, .aload_n 0, []), (52, .iload_n 1, []), (53, .iload_n 2, []), (54, .aload_n 3, []), (55, .iload 4, []), (57, .invokevirtual 265, [107, 623, 625, 21]), (60, .ifCond .eq 22, [40]), (63, .iload 5, []), (65, .ifCond .ne 14, [39]), (68, .aload_n 0, []), (69, .getfield 38, [3, 7, 159]), (72, .aload_n 0, []), (73, .getfield 42, [3, 8, 160]), (76, .invokestatic 269, [111, 628, 290]), (79, .iinc 5 1, []), (82, .aload_n 0, []), (83, .iload_n 2, []), (84, .invokevirtual 273, [105, 629, 631, 22]), (87, .istore 6, []), (89, .iinc 7 1, []), (92, .goto (-53), [20]), (95, .iload 5, []), (97, .ireturn, [])]
def zk_104 : List zR := [(0, .iconst 0, []), (1, .istore_n 2, []), (2, .iconst 0, []), (3, .istore_n 3, []), (4, .iload_n 3, []), (5, .bipush 12, []), (7, .if_icmp .ge 29, [19]), (10, .iload_n 1, []), (11, .iload_n 3, []), (12, .invokestatic 276, [108, 619, 620]), (15, .ifCond .eq 15, [17]), (18, .aload_n 0, []), (19, .getfield 38, [3, 7, 159]), (22, .iload_n 2, []), (23, .iload_n 3, []), (24, .invokestatic 279, [110, 622, 199]), (27, .iinc 2 1, []), (30, .iinc 3 1, []), (33, .goto (-29), [4]), (36, .return_, [])]
def zk_105 : List zR := [(0, .iload_n 1, []), (1, .iconst 2, []), (2, .isub, []), (3, .istore_n 2, []), (4, .iload_n 2, []), (5, .ifCond .lt 30, [19]), (8, .aload_n 0, []), (9, .getfield 38, [3, 7, 159]), (12, .iload_n 2, []), (13, .invokestatic 238, [109, 627, 225]), (16, .aload_n 0, []), (17, .getfield 38, [3, 7, 159]), (20, .iload_n 2, []), (21, .iconst 1, []), (22, .iadd, []), (23, .invokestatic 238, [109, 627, 225]), (26, .if_icmp .le 9, [19]), (29, .iinc 2 (-1), []), (32, .goto (-28), [4]), (35, .iload_n 2, []), (36, .ifCond .ge 5, [23]), (39, .iconst 0, []), (40, .ireturn, []), (41, .iload_n 1, []), (42, .iconst 1, []), (43, .isub, []), (44, .istore_n 3, []), (45, .iload_n 3, []), (46, .iload_n 2, []), (47, .if_icmp .le 28, [41]), (50, .aload_n 0, []), (51, .getfield 38, [3, 7, 159]), (54, .iload_n 3, []), (55, .invokestatic 238, [109, 627, 225]), (58, .aload_n 0, []), (59, .getfield 38, [3, 7, 159]), (62, .iload_n 2, []), (63, .invokestatic 238, [109, 627, 225]), (66, .if_icmp .ge 9, [41]), (69, .iinc 3 (-1), []), (72, .goto (-27), [27]), (75, .aload_n 0, []), (76, .iload_n 2, []), (77, .iload_n 3, []), (78, .invokevirtual 283, [106, 633, 635, 23]), (81, .iload_n 2, []), (82, .iconst 1, []), (83, .iadd, []), (84, .istore 4, []), (86, .iload_n 1, []), (87, .iconst 1, []), (88, .isub, []), (89, .istore 5, []), (91, .iload 4, []), (93, .iload 5, []), (95, .if_icmp .ge 20, [63]), (98, .aload_n 0, []), (99, .iload 4, []), (101, .iload 5, []), (103, .invokevirtual 283, [106, 633, 635, 23]), (106, .iinc 4 1, []), (109, .iinc 5 (-1), []), (112, .goto (-21), [53]), (115, .iconst 1, []), (116, .ireturn, [])]
def zk_106 : List zR := [(0, .aload_n 0, []), (1, .getfield 38, [3, 7, 159]), (4, .iload_n 1, []), (5, .invokestatic 238, [109, 627, 225]), (8, .istore_n 3, []), (9, .aload_n 0, []), (10, .getfield 38, [3, 7, 159]), (13, .iload_n 1, []), (14, .aload_n 0, []), (15, .getfield 38, [3, 7, 159]), (18, .iload_n 2, []), (19, .invokestatic 238, [109, 627, 225]), (22, .invokestatic 279, [110, 622, 199]), (25, .aload_n 0, []), (26, .getfield 38, [3, 7, 159]), (29, .iload_n 2, []), (30, .iload_n 3, []), (31, .invokestatic 279, [110, 622, 199]), (34, .return_, [])]
def zk_107 : List zR := [(0, .aload_n 0, []), (1, .getfield 22, [3, 4, 156]), (4, .aload_n 0, []), (5, .getfield 19, [3, 3, 155]), (8, .invokevirtual 111, [6, 285, 286, 287]), (11, .iconst 0, []), (12, .istore 5, []), (14, .iload 5, []), (16, .iload_n 2, []), (17, .if_icmp .ge 46, [31]), (20, .aload_n 0, []), (21, .getfield 38, [3, 7, 159]), (24, .iload 5, []), (26, .invokestatic 238, [109, 627, 225]), (29, .istore 6, []), (31, .aload_n 0, []), (32, .getfield 22, [3, 4, 156]), (35, .iload 6, []), (37, .iconst 0, []), (38, .invokevirtual 143, [34, 378, 379, 380]), (41, .ifCond .ne 5, [23]), (44, .iconst 0, []), (45, .ireturn, []), (46, .aload_n 0, []), (47, .getfield 22, [3, 4, 156]), (50, .iload 6, []), (52, .iconst 0, []), (53, .invokevirtual 150, [37, 398, 399, 400]), (56, .pop, []), (57, .iinc 5 1, []), (60, .goto (-46), [7]), (63, .iload 4, []), (65, .istore 5, []), (67, .iconst 0, []), (68, .istore 6, []), (70, .iload 6, []), (72, .bipush 12, []), (74, .if_icmp .ge 63, [67]), (77, .iload_n 1, []), (78, .iload 6, []), (80, .invokestatic 276, [108, 619, 620]), (83, .ifCond .eq 48, [65]), (86, .aload_n 0, []), (87, .getfield 22, [3, 4, 156]), (90, .iload 6, []), (92, .iconst 0, []), (93, .invokevirtual 72, [16, 227, 228, 229]), (96, .aload_n 3, []), (97, .iload 5, []), (99, .invokevirtual 219, [4, 588, 589, 590]), (102, .if_icmp .ne 24, [62]), (105, .aload_n 0, []), (106, .getfield 22, [3, 4, 156]), (109, .iload 6, []), (111, .iconst 1, []), (112, .invokevirtual 72, [16, 227, 228, 229]), (115, .aload_n 3, []), (116, .iload 5, []), (118, .iconst 1, []), (119, .iadd, []), (120, .invokevirtual 219, [4, 588, 589, 590]), (123, .if_icmp .eq 5, [64]), (126, .iconst 0, []), (127, .ireturn, []), (128, .iinc 5 2, []), (131, .iinc 6 1, []), (134, .goto (-64), [35]), (137, .iconst 1, []), (138, .ireturn, [])]
def zk_108 : List zR := [(0, .iload_n 0, []), (1, .iload_n 1, []), (2, .ishr, []), (3, .iconst 1, []), (4, .iand, []), (5, .ifCond .eq 7, [8]), (8, .iconst 1, []), (9, .goto 4, [9]), (12, .iconst 0, []), (13, .ireturn, [])]
def zk_109 : List zR := [(0, .iload_n 1, []), (1, .ifCond .lt 15, [10]), (4, .iload_n 1, []), (5, .aload_n 0, []), (6, .arraylength, []), (7, .if_icmp .ge 9, [10]), (10, .aload_n 0, []), (11, .iload_n 1, []), (12, .iaload, []), (13, .goto 4, [11]), (16, .iconst 0, []), (17, .ireturn, [])]
def zk_110 : List zR := [(0, .iload_n 1, []), (1, .ifCond .lt 13, [10]), (4, .iload_n 1, []), (5, .aload_n 0, []), (6, .arraylength, []), (7, .if_icmp .ge 7, [10]), (10, .aload_n 0, []), (11, .iload_n 1, []), (12, .iload_n 2, []), (13, .iastore, []), (14, .return_, [])]
def zk_111 : List zR := [(0, .aload_n 0, []), (1, .iconst 0, []), (2, .aload_n 1, []), (3, .iconst 0, []), (4, .aload_n 0, []), (5, .arraylength, []), (6, .aload_n 1, []), (7, .arraylength, []), (8, .invokestatic 286, [179, 292, 293]), (11, .invokestatic 289, [999, 295, 297, 296, 62]), (14, .return_, [])]
def zk_112 : List zR := [(0, .lload_n 0, []), (1, .lload_n 2, []), (2, .lcmp, []), (3, .ifCond .lt 14, [10]), (6, .lload_n 0, []), (7, .lload 4, []), (9, .lcmp, []), (10, .ifCond .gt 7, [10]), (13, .iconst 1, []), (14, .goto 4, [11]), (17, .iconst 0, []), (18, .ireturn, [])]
def zk_113 : List zR := [(0, .iload_n 1, []), (1, .i2l, []), (2, .lconst 0, []), (3, .aload_n 0, []), (4, .getfield 71, [4, 1, 678]), (7, .iconst 1, []), (8, .isub, []), (9, .i2l, []), (10, .invokestatic 74, [112, 767, 768]), (13, .ireturn, [])]
def zk_114 : List zR := [(0, .aload_n 0, []), (1, .getfield 7, [4, 0, 677]), (4, .bipush 6, []), (6, .iload_n 1, []), (7, .imul, []), (8, .iconst 1, []), (9, .iadd, []), (10, .iload_n 2, []), (11, .iadd, []), (12, .iaload, []), (13, .ireturn, [])]
def zk_115 : List zR := [(0, .bipush 6, []), (2, .aload_n 0, []), (3, .getfield 71, [4, 1, 678]), (6, .imul, []), (7, .istore 6, []), (9, .aload_n 0, []), (10, .getfield 7, [4, 0, 677]), (13, .iload 6, []), (15, .iload_n 1, []), (16, .iastore, []), (17, .aload_n 0, []), (18, .getfield 7, [4, 0, 677]), (21, .iload 6, []), (23, .iconst 1, []), (24, .iadd, []), (25, .iload_n 2, []), (26, .iastore, []), (27, .aload_n 0, []), (28, .getfield 7, [4, 0, 677]), (31, .iload 6, []), (33, .iconst 2, []), (34, .iadd, []), (35, .iload_n 3, []), (36, .iastore, []), (37, .aload_n 0, []), (38, .getfield 7, [4, 0, 677]), (41, .iload 6, []), (43, .iconst 3, []), (44, .iadd, []), (45, .iload 4, []), (47, .iastore, []), (48, .aload_n 0, []), (49, .getfield 7, [4, 0, 677]), (52, .iload 6, []), (54, .iconst 4, []), (55, .iadd, []), (56, .iload 5, []), (58, .iastore, []), (59, .aload_n 0, []), (60, .getfield 7, [4, 0, 677]), (63, .iload 6, []), (65, .iconst 5, []), (66, .iadd, []), (67, .bipush (-4), []), (69, .iastore, []), (70, .aload_n 0, []), (71, .dup, []), (72, .getfield 71, [4, 1, 678]), (75, .iconst 1, []), (76, .iadd, []), (77, .putfield 71, [4, 1, 678]), (80, .return_, [])]
def zk_116 : List zR := [(0, .iload_n 1, []), (1, .i2l, []), (2, .lconst 0, []), (3, .ldc2_w 78, [3, 0, 766]), (6, .invokestatic 74, [112, 767, 768]), (9, .ifCond .eq 31, [18]), (12, .iload_n 2, []), (13, .i2l, []), (14, .ldc2_w 78, [3, 0, 766]), (17, .ldc2_w 80, [9, 0, 770]), (20, .invokestatic 74, [112, 767, 768]), (23, .ifCond .eq 17, [18]), (26, .iload_n 3, []), (27, .i2l, []), (28, .ldc2_w 78, [3, 0, 766]), (31, .ldc2_w 80, [9, 0, 770]), (34, .invokestatic 74, [112, 767, 768]), (37, .ifCond .ne 5, [20]), (40, .iconst (-1), []), (41, .ireturn, []), (42, .aload_n 0, []), (43, .getfield 71, [4, 1, 678]), (46, .bipush 12, []), (48, .if_icmp .ne 6, [26]), (51, .bipush (-3), []), (53, .ireturn, []), (54, .aload_n 0, []), (55, .iload_n 1, []), (56, .iload_n 2, []), (57, .iload_n 3, []), (58, .iconst 0, []), (59, .iconst 0, []), (60, .invokevirtual 82, [115, 771, 773, 24]), (63, .aload_n 0, []), (64, .getfield 71, [4, 1, 678]), (67, .iconst 1, []), (68, .isub, []), (69, .ireturn, [])]
def zk_117 : List zR := [(0, .aload_n 0, []), (1, .iload_n 1, []), (2, .invokevirtual 86, [113, 779, 781, 25]), (5, .ifCond .eq 31, [22]), (8, .iload_n 2, []), (9, .i2l, []), (10, .lconst 0, []), (11, .lconst 1, []), (12, .invokestatic 74, [112, 767, 768]), (15, .ifCond .eq 21, [22]), (18, .iload_n 3, []), (19, .i2l, []), (20, .lconst 0, []), (21, .aload_n 0, []), (22, .iload_n 1, []), (23, .iload_n 2, []), (24, .invokevirtual 90, [114, 783, 785, 26]), (27, .iconst 1, []), (28, .isub, []), (29, .i2l, []), (30, .invokestatic 74, [112, 767, 768]), (33, .ifCond .ne 5, [24]), (36, .iconst (-1), []), (37, .ireturn, []), (38, .aload_n 0, []), (39, .getfield 7, [4, 0, 677]), (42, .bipush 6, []), (44, .iload_n 1, []), (45, .imul, []), (46, .iconst 3, []), (47, .iadd, []), (48, .iload_n 2, []), (49, .iadd, []), (50, .iaload, []), (51, .istore 4, []), (53, .aload_n 0, []), (54, .getfield 7, [4, 0, 677]), (57, .bipush 6, []), (59, .iload_n 1, []), (60, .imul, []), (61, .iconst 3, []), (62, .iadd, []), (63, .iload_n 2, []), (64, .iadd, []), (65, .iload_n 3, []), (66, .iastore, []), (67, .iload 4, []), (69, .ireturn, [])]
def zk_118 : List zR := [(0, .bipush (-4), []), (2, .istore_n 2, []), (3, .iconst 0, []), (4, .istore_n 3, []), (5, .iload_n 3, []), (6, .aload_n 0, []), (7, .getfield 94, [4, 4, 681]), (10, .if_icmp .ge 25, [20]), (13, .aload_n 0, []), (14, .getfield 13, [4, 2, 679]), (17, .iload_n 3, []), (18, .iaload, []), (19, .iload_n 1, []), (20, .if_icmp .ne 7, [16]), (23, .iload_n 3, []), (24, .goto 4, [17]), (27, .iload_n 2, []), (28, .istore_n 2, []), (29, .iinc 3 1, []), (32, .goto (-27), [4]), (35, .iload_n 2, []), (36, .ireturn, [])]
def zk_119 : List zR := [(0, .aload_n 0, []), (1, .iload_n 1, []), (2, .invokevirtual 86, [113, 779, 781, 25]), (5, .ifCond .eq 15, [10]), (8, .iload_n 2, []), (9, .i2l, []), (10, .lconst 0, []), (11, .ldc2_w 97, [7, 0, 791]), (14, .invokestatic 74, [112, 767, 768]), (17, .ifCond .ne 5, [12]), (20, .iconst (-1), []), (21, .ireturn, []), (22, .aload_n 0, []), (23, .iload_n 1, []), (24, .invokevirtual 99, [118, 792, 794, 27]), (27, .istore_n 3, []), (28, .iload_n 2, []), (29, .iconst 5, []), (30, .if_icmp .ge 17, [28]), (33, .aload_n 0, []), (34, .getfield 7, [4, 0, 677]), (37, .bipush 6, []), (39, .iload_n 1, []), (40, .imul, []), (41, .iload_n 2, []), (42, .iadd, []), (43, .iaload, []), (44, .goto 47, [53]), (47, .iload_n 2, []), (48, .iconst 5, []), (49, .if_icmp .ne 7, [33]), (52, .iload_n 3, []), (53, .goto 38, [53]), (56, .iload_n 2, []), (57, .bipush 6, []), (59, .if_icmp .ne 21, [45]), (62, .iload_n 3, []), (63, .ifCond .ge 8, [40]), (66, .bipush (-4), []), (68, .goto 23, [53]), (71, .aload_n 0, []), (72, .getfield 16, [4, 3, 680]), (75, .iload_n 3, []), (76, .iaload, []), (77, .goto 14, [53]), (80, .aload_n 0, []), (81, .getfield 7, [4, 0, 677]), (84, .bipush 6, []), (86, .iload_n 1, []), (87, .imul, []), (88, .iconst 5, []), (89, .iadd, []), (90, .iaload, []), (91, .ireturn, [])]
def zk_120 : List zR := [(0, .aload_n 0, []), (1, .iload_n 1, []), (2, .invokevirtual 86, [113, 779, 781, 25]), (5, .ifCond .eq 15, [10]), (8, .iload_n 2, []), (9, .i2l, []), (10, .ldc2_w 103, [1, 1, 800]), (13, .lconst 1, []), (14, .invokestatic 74, [112, 767, 768]), (17, .ifCond .ne 5, [12]), (20, .iconst (-1), []), (21, .ireturn, []), (22, .aload_n 0, []), (23, .iload_n 1, []), (24, .invokevirtual 99, [118, 792, 794, 27]), (27, .ifCond .lt 6, [18]), (30, .bipush (-2), []), (32, .ireturn, []), (33, .aload_n 0, []), (34, .getfield 7, [4, 0, 677]), (37, .bipush 6, []), (39, .iload_n 1, []), (40, .imul, []), (41, .iconst 5, []), (42, .iadd, []), (43, .iaload, []), (44, .istore_n 3, []), (45, .aload_n 0, []), (46, .getfield 7, [4, 0, 677]), (49, .bipush 6, []), (51, .iload_n 1, []), (52, .imul, []), (53, .iconst 5, []), (54, .iadd, []), (55, .iload_n 2, []), (56, .ifCond .ge 8, [38]), (59, .bipush (-4), []), (61, .goto 4, [39]), (64, .iload_n 2, []), (65, .iastore, []), (66, .iload_n 3, []), (67, .ireturn, [])]
def zk_121 : List zR := [(0, .iload_n 3, []), (1, .i2l, []), (2, .lconst 1, []), (3, .ldc2_w 105, [8, 0, 805]), (6, .invokestatic 74, [112, 767, 768]), (9, .ifCond .ne 5, [8]), (12, .iconst (-1), []), (13, .ireturn, []), (14, .iload_n 3, []), (15, .iconst 1, []), (16, .isub, []), (17, .istore 4, []), (19, .iload 4, []), (21, .ifCond .lt 34, [29]), (24, .lload_n 1, []), (25, .bipush 8, []), (27, .iload 4, []), (29, .imul, []), (30, .lshr, []), (31, .ldc2_w 107, [255, 0, 806]), (34, .land, []), (35, .ldc2_w 109, [32, 0, 807]), (38, .ldc2_w 111, [126, 0, 808]), (41, .invokestatic 74, [112, 767, 768]), (44, .ifCond .ne 5, [27]), (47, .iconst (-1), []), (48, .ireturn, []), (49, .iinc 4 (-1), []), (52, .goto (-33), [12]), (55, .aload_n 0, []), (56, .getfield 113, [4, 9, 686]), (59, .iload_n 3, []), (60, .iadd, []), (61, .bipush 80, []), (63, .if_icmp .le 6, [37]), (66, .bipush (-3), []), (68, .ireturn, []), (69, .iload_n 3, []), (70, .iconst 1, []), (71, .isub, []), (72, .istore 4, []), (74, .iload 4, []), (76, .ifCond .lt 40, [64]), (79, .aload_n 0, []), (80, .getfield 26, [4, 8, 685]), (83, .aload_n 0, []), (84, .getfield 113, [4, 9, 686]), (87, .lload_n 1, []), (88, .bipush 8, []), (90, .iload 4, []), (92, .imul, []), (93, .lshr, []), (94, .ldc2_w 107, [255, 0, 806]), (97, .land, []), (98, .l2i, []), (99, .iastore, []), (100, .aload_n 0, []), (101, .dup, []), (102, .getfield 113, [4, 9, 686]), (105, .iconst 1, []), (106, .iadd, []), (107, .putfield 113, [4, 9, 686]), (110, .iinc 4 (-1), []), (113, .goto (-39), [41]), (116, .aload_n 0, []), (117, .getfield 113, [4, 9, 686]), (120, .ireturn, [])]
def zk_122 : List zR := [(0, .aload_n 0, []), (1, .getfield 116, [4, 10, 687]), (4, .aload_n 0, []), (5, .getfield 113, [4, 9, 686]), (8, .if_icmp .ge 30, [19]), (11, .aload_n 0, []), (12, .getfield 26, [4, 8, 685]), (15, .aload_n 0, []), (16, .getfield 116, [4, 10, 687]), (19, .iaload, []), (20, .bipush 32, []), (22, .if_icmp .ne 16, [19]), (25, .aload_n 0, []), (26, .dup, []), (27, .getfield 116, [4, 10, 687]), (30, .iconst 1, []), (31, .iadd, []), (32, .putfield 116, [4, 10, 687]), (35, .goto (-35), [0]), (38, .aload_n 0, []), (39, .getfield 116, [4, 10, 687]), (42, .aload_n 0, []), (43, .getfield 113, [4, 9, 686]), (46, .if_icmp .ge 15, [30]), (49, .aload_n 0, []), (50, .getfield 26, [4, 8, 685]), (53, .aload_n 0, []), (54, .getfield 116, [4, 10, 687]), (57, .iaload, []), (58, .goto 4, [31]), (61, .iconst (-1), []), (62, .ireturn, [])]
def zk_123 : List zR := [(0, .aload_n 0, []), (1, .invokevirtual 119, [122, 825, 827, 31]), (4, .bipush 48, []), (6, .isub, []), (7, .istore 4, []), (9, .iload 4, []), (11, .i2l, []), (12, .iload_n 2, []), (13, .i2l, []), (14, .iload_n 3, []), (15, .i2l, []), (16, .invokestatic 74, [112, 767, 768]), (19, .ifCond .ne 5, [15]), (22, .iconst 0, []), (23, .ireturn, []), (24, .aload_n 0, []), (25, .getfield 29, [4, 12, 689]), (28, .iload_n 1, []), (29, .iload 4, []), (31, .iastore, []), (32, .aload_n 0, []), (33, .dup, []), (34, .getfield 116, [4, 10, 687]), (37, .iconst 1, []), (38, .iadd, []), (39, .putfield 116, [4, 10, 687]), (42, .iconst 1, []), (43, .ireturn, [])]
def zk_124 : List zR := [(0, .aload_n 0, []), (1, .iload_n 1, []), (2, .iconst 1, []), (3, .iadd, []), (4, .iconst 3, []), (5, .bipush 9, []), (7, .invokevirtual 123, [123, 821, 823, 30]), (10, .ifCond .eq 16, [16]), (13, .aload_n 0, []), (14, .iload_n 1, []), (15, .iconst 2, []), (16, .iadd, []), (17, .iconst 3, []), (18, .bipush 9, []), (20, .invokevirtual 123, [123, 821, 823, 30]), (23, .ifCond .ne 5, [18]), (26, .iconst 0, []), (27, .ireturn, []), (28, .aload_n 0, []), (29, .invokevirtual 119, [122, 825, 827, 31]), (32, .istore_n 2, []), (33, .aload_n 0, []), (34, .getfield 29, [4, 12, 689]), (37, .iload_n 1, []), (38, .iload_n 2, []), (39, .bipush 112, []), (41, .if_icmp .ne 7, [29]), (44, .iconst 1, []), (45, .goto 24, [40]), (48, .iload_n 2, []), (49, .bipush 115, []), (51, .if_icmp .ne 7, [34]), (54, .iconst 2, []), (55, .goto 14, [40]), (58, .iload_n 2, []), (59, .bipush 104, []), (61, .if_icmp .ne 7, [39]), (64, .iconst 3, []), (65, .goto 4, [40]), (68, .iconst 0, []), (69, .iastore, []), (70, .aload_n 0, []), (71, .dup, []), (72, .getfield 116, [4, 10, 687]), (75, .aload_n 0, []), (76, .getfield 29, [4, 12, 689]), (79, .iload_n 1, []), (80, .iaload, []), (81, .ifCond .le 7, [51]), (84, .iconst 1, []), (85, .goto 4, [52]), (88, .iconst 0, []), (89, .iadd, []), (90, .putfield 116, [4, 10, 687]), (93, .aload_n 0, []), (94, .getfield 29, [4, 12, 689]), (97, .iload_n 1, []), (98, .iconst 3, []), (99, .iadd, []), (100, .iconst 0, []), (101, .iastore, []), (102, .aload_n 0, []), (103, .getfield 29, [4, 12, 689]), (106, .iload_n 1, []), (107, .iconst 4, []), (108, .iadd, []), (109, .iconst 0, []), (110, .iastore, []), (111, .aload_n 0, []), (112, .invokevirtual 119, [122, 825, 827, 31]), (115, .bipush 64, []), (117, .if_icmp .ne 61, [112]), (120, .aload_n 0, []), (121, .dup, []), (122, .getfield 116, [4, 10, 687]), (125, .iconst 1, []), (126, .iadd, []), (127, .putfield 116, [4, 10, 687]), (130, .aload_n 0, []), (131, .iload_n 1, []), (132, .iconst 3, []), (133, .iadd, []), (134, .iconst 0, []), (135, .aload_n 0, []), (136, .getfield 29, [4, 12, 689]), (139, .iload_n 1, []), (140, .iconst 1, []), (141, .iadd, []), (142, .iaload, []), (143, .iconst 1, []), (144, .isub, []), (145, .invokevirtual 123, [123, 821, 823, 30]), (148, .ifCond .eq 28, [110]), (151, .aload_n 0, []), (152, .iload_n 1, []), (153, .iconst 4, []), (154, .iadd, []), (155, .iconst 0, []), (156, .aload_n 0, []), (157, .getfield 29, [4, 12, 689]), (160, .iload_n 1, []), (161, .iconst 2, []), (162, .iadd, []), (163, .iaload, []), (164, .iconst 1, []), (165, .isub, []), (166, .invokevirtual 123, [123, 821, 823, 30]), (169, .ifCond .eq 7, [110]), (172, .iconst 1, []), (173, .goto 4, [111]), (176, .iconst 0, []), (177, .ireturn, []), (178, .iconst 1, []), (179, .ireturn, [])]
def zk_125 : List zR := [(0, .aload_n 0, []), (1, .iconst 0, []), (2, .putfield 116, [4, 10, 687]), (5, .iconst 0, []), (6, .istore_n 1, []), (7, .iload_n 1, []), (8, .bipush 8, []), (10, .if_icmp .ge 63, [44]), (13, .aload_n 0, []), (14, .iconst 5, []), (15, .iload_n 1, []), (16, .imul, []), (17, .invokevirtual 127, [124, 817, 819, 29]), (20, .ifCond .ne 5, [16]), (23, .iconst 0, []), (24, .ireturn, []), (25, .aload_n 0, []), (26, .iload_n 1, []), (27, .iconst 1, []), (28, .iadd, []), (29, .putfield 130, [4, 11, 688]), (32, .aload_n 0, []), (33, .invokevirtual 119, [122, 825, 827, 31]), (36, .istore_n 2, []), (37, .iload_n 2, []), (38, .ifCond .ge 5, [28]), (41, .iconst 1, []), (42, .ireturn, []), (43, .iload_n 2, []), (44, .bipush 44, []), (46, .if_icmp .ne 9, [34]), (49, .iload_n 1, []), (50, .bipush 7, []), (52, .if_icmp .ne 5, [36]), (55, .iconst 0, []), (56, .ireturn, []), (57, .aload_n 0, []), (58, .dup, []), (59, .getfield 116, [4, 10, 687]), (62, .iconst 1, []), (63, .iadd, []), (64, .putfield 116, [4, 10, 687]), (67, .iinc 1 1, []), (70, .goto (-63), [5]), (73, .iconst 0, []), (74, .ireturn, [])]
def zk_126 : List zR := [(0, .aload_n 0, []), (1, .invokevirtual 133, [125, 813, 815, 28]), (4, .istore_n 1, []), (5, .aload_n 0, []), (6, .iconst 0, []), (7, .putfield 113, [4, 9, 686]), (10, .iload_n 1, []), (11, .ifCond .ne 11, [13]), (14, .bipush (-20), []), (16, .aload_n 0, []), (17, .getfield 116, [4, 10, 687]), (20, .isub, []), (21, .ireturn, []), (22, .aload_n 0, []), (23, .iconst 0, []), (24, .putfield 71, [4, 1, 678]), (27, .aload_n 0, []), (28, .iconst 0, []), (29, .putfield 94, [4, 4, 681]), (32, .aload_n 0, []), (33, .getfield 19, [4, 5, 682]), (36, .iconst 0, []), (37, .iconst 0, []), (38, .iastore, []), (39, .aload_n 0, []), (40, .getfield 19, [4, 5, 682]), (43, .iconst 1, []), (44, .iconst 0, []), (45, .iastore, []), (46, .aload_n 0, []), (47, .iconst 0, []), (48, .putfield 137, [4, 6, 683]), (51, .iconst 0, []), (52, .istore_n 2, []), (53, .iload_n 2, []), (54, .aload_n 0, []), (55, .getfield 130, [4, 11, 688]), (58, .if_icmp .ge 61, [80]), (61, .aload_n 0, []), (62, .aload_n 0, []), (63, .getfield 29, [4, 12, 689]), (66, .iconst 5, []), (67, .iload_n 2, []), (68, .imul, []), (69, .iaload, []), (70, .aload_n 0, []), (71, .getfield 29, [4, 12, 689]), (74, .iconst 5, []), (75, .iload_n 2, []), (76, .imul, []), (77, .iconst 1, []), (78, .iadd, []), (79, .iaload, []), (80, .aload_n 0, []), (81, .getfield 29, [4, 12, 689]), (84, .iconst 5, []), (85, .iload_n 2, []), (86, .imul, []), (87, .iconst 2, []), (88, .iadd, []), (89, .iaload, []), (90, .aload_n 0, []), (91, .getfield 29, [4, 12, 689]), (94, .iconst 5, []), (95, .iload_n 2, []), (96, .imul, []), (97, .iconst 3, []), (98, .iadd, []), (99, .iaload, []), (100, .aload_n 0, []), (101, .getfield 29, [4, 12, 689]), (104, .iconst 5, []), (105, .iload_n 2, []), (106, .imul, []), (107, .iconst 4, []), (108, .iadd, []), (109, .iaload, []), (110, .invokevirtual 82, [115, 771, 773, 24]), (113, .iinc 2 1, []), (116, .goto (-63), [34]), (119, .aload_n 0, []), (120, .getfield 71, [4, 1, 678]), (123, .ireturn, [])]
def zk_127 : List zR := [(0, .aload_n 0, []), (1, .getfield 7, [4, 0, 677]), (4, .bipush 6, []), (6, .iload_n 1, []), (7, .imul, []), (8, .iaload, []), (9, .iconst 1, []), (10, .if_icmp .eq 16, [16]), (13, .aload_n 0, []), (14, .getfield 7, [4, 0, 677]), (17, .bipush 6, []), (19, .iload_n 1, []), (20, .imul, []), (21, .iaload, []), (22, .iconst 3, []), (23, .if_icmp .ne 7, [18]), (26, .iconst 1, []), (27, .goto 4, [19]), (30, .iconst 0, []), (31, .ireturn, [])]
def zk_128 : List zR := [(0, .iload_n 1, []), (1, .istore_n 2, []), (2, .iconst 0, []), (3, .istore_n 3, []), (4, .iload_n 3, []), (5, .aload_n 0, []), (6, .getfield 94, [4, 4, 681]), (9, .if_icmp .ge 54, [40]), (12, .aload_n 0, []), (13, .getfield 32, [4, 13, 690]), (16, .iload_n 3, []), (17, .iload_n 2, []), (18, .iastore, []), (19, .aload_n 0, []), (20, .getfield 35, [4, 14, 691]), (23, .iload_n 3, []), (24, .aload_n 0, []), (25, .getfield 7, [4, 0, 677]), (28, .bipush 6, []), (30, .aload_n 0, []), (31, .getfield 13, [4, 2, 679]), (34, .iload_n 3, []), (35, .iaload, []), (36, .imul, []), (37, .iaload, []), (38, .iconst 2, []), (39, .if_icmp .ne 7, [29]), (42, .iload_n 2, []), (43, .goto 5, [31]), (46, .iload_n 2, []), (47, .ineg, []), (48, .iastore, []), (49, .aload_n 0, []), (50, .getfield 35, [4, 14, 691]), (53, .iload_n 3, []), (54, .iaload, []), (55, .ineg, []), (56, .istore_n 2, []), (57, .iinc 3 1, []), (60, .goto (-56), [4]), (63, .return_, [])]
def zk_129 : List zR := [(0, .bipush (-4), []), (2, .istore_n 1, []), (3, .iconst 0, []), (4, .istore_n 2, []), (5, .iload_n 2, []), (6, .aload_n 0, []), (7, .getfield 94, [4, 4, 681]), (10, .if_icmp .ge 46, [31]), (13, .aload_n 0, []), (14, .aload_n 0, []), (15, .getfield 13, [4, 2, 679]), (18, .iload_n 2, []), (19, .iaload, []), (20, .invokevirtual 141, [127, 880, 882, 41]), (23, .ifCond .eq 25, [27]), (26, .aload_n 0, []), (27, .getfield 32, [4, 13, 690]), (30, .iload_n 2, []), (31, .iaload, []), (32, .ifCond .lt 12, [25]), (35, .aload_n 0, []), (36, .getfield 35, [4, 14, 691]), (39, .iload_n 2, []), (40, .iaload, []), (41, .ifCond .ge 7, [27]), (44, .iload_n 2, []), (45, .goto 4, [28]), (48, .iload_n 1, []), (49, .istore_n 1, []), (50, .iinc 2 1, []), (53, .goto (-48), [4]), (56, .iload_n 1, []), (57, .ireturn, [])]
def zk_130 : List zR := [(0, .aload_n 0, []), (1, .getfield 137, [4, 6, 683]), (4, .ifCond .eq 27, [17]), (7, .aload_n 0, []), (8, .getfield 32, [4, 13, 690]), (11, .iconst 0, []), (12, .iaload, []), (13, .aload_n 0, []), (14, .getfield 35, [4, 14, 691]), (17, .aload_n 0, []), (18, .getfield 94, [4, 4, 681]), (21, .iconst 1, []), (22, .isub, []), (23, .iaload, []), (24, .if_icmp .ne 7, [17]), (27, .iconst 1, []), (28, .goto 4, [18]), (31, .iconst 0, []), (32, .ireturn, [])]
def zk_131 : List zR := [(0, .aload_n 0, []), (1, .invokevirtual 144, [130, 872, 874, 39]), (4, .ifCond .ne 10, [6]), (7, .aload_n 0, []), (8, .invokevirtual 147, [129, 876, 878, 40]), (11, .ifCond .lt 7, [8]), (14, .iconst 1, []), (15, .goto 4, [9]), (18, .iconst 0, []), (19, .ireturn, [])]
def zk_132 : List zR := [(0, .aload_n 0, []), (1, .iconst 1, []), (2, .invokevirtual 150, [128, 864, 866, 37]), (5, .aload_n 0, []), (6, .getfield 35, [4, 14, 691]), (9, .aload_n 0, []), (10, .getfield 94, [4, 4, 681]), (13, .iconst 1, []), (14, .isub, []), (15, .iaload, []), (16, .ireturn, [])]
def zk_133 : List zR := [(0, .iload_n 0, []), (1, .iload_n 1, []), (2, .iadd, []), (3, .iload_n 2, []), (4, .irem, []), (5, .istore_n 3, []), (6, .iload_n 3, []), (7, .ifCond .ge 9, [12]), (10, .iload_n 3, []), (11, .iload_n 2, []), (12, .iadd, []), (13, .goto 4, [13]), (16, .iload_n 3, []), (17, .ireturn, [])]
def zk_134 : List zR := [(0, .iconst 0, []), (1, .istore_n 2, []), (2, .iload_n 2, []), (3, .aload_n 0, []), (4, .getfield 94, [4, 4, 681]), (7, .if_icmp .ge 118, [82]), (10, .aload_n 0, []), (11, .getfield 13, [4, 2, 679]), (14, .iload_n 2, []), (15, .iaload, []), (16, .istore_n 3, []), (17, .aload_n 0, []), (18, .getfield 16, [4, 3, 680]), (21, .iload_n 2, []), (22, .iaload, []), (23, .istore 4, []), (25, .aload_n 0, []), (26, .getfield 7, [4, 0, 677]), (29, .bipush 6, []), (31, .iload_n 3, []), (32, .imul, []), (33, .iconst 3, []), (34, .iadd, []), (35, .iload 4, []), (37, .iadd, []), (38, .aload_n 0, []), (39, .getfield 7, [4, 0, 677]), (42, .bipush 6, []), (44, .iload_n 3, []), (45, .imul, []), (46, .iconst 3, []), (47, .iadd, []), (48, .iload 4, []), (50, .iadd, []), (51, .iaload, []), (52, .aload_n 0, []), (53, .getfield 32, [4, 13, 690]), (56, .iload_n 2, []), (57, .iaload, []), (58, .iload_n 1, []), (59, .imul, []), (60, .aload_n 0, []), (61, .iload_n 3, []), (62, .iload 4, []), (64, .invokevirtual 90, [114, 783, 785, 26]), (67, .invokestatic 154, [133, 888, 889]), (70, .iastore, []), (71, .aload_n 0, []), (72, .getfield 7, [4, 0, 677]), (75, .bipush 6, []), (77, .iload_n 3, []), (78, .imul, []), (79, .iconst 4, []), (80, .iadd, []), (81, .iload 4, []), (83, .isub, []), (84, .aload_n 0, []), (85, .getfield 7, [4, 0, 677]), (88, .bipush 6, []), (90, .iload_n 3, []), (91, .imul, []), (92, .iconst 4, []), (93, .iadd, []), (94, .iload 4, []), (96, .isub, []), (97, .iaload, []), (98, .aload_n 0, []), (99, .getfield 35, [4, 14, 691]), (102, .iload_n 2, []), (103, .iaload, []), (104, .iload_n 1, []), (105, .imul, []), (106, .aload_n 0, []), (107, .iload_n 3, []), (108, .iconst 1, []), (109, .iload 4, []), (111, .isub, []), (112, .invokevirtual 90, [114, 783, 785, 26]), (115, .invokestatic 154, [133, 888, 889]), (118, .iastore, []), (119, .iinc 2 1, []), (122, .goto (-120), [2]), (125, .return_, [])]
def zk_135 : List zR := [(0, .iconst 0, []), (1, .istore_n 1, []), (2, .iconst 0, []), (3, .istore_n 2, []), (4, .iload_n 2, []), (5, .aload_n 0, []), (6, .getfield 94, [4, 4, 681]), (9, .if_icmp .ge 61, [44]), (12, .iload_n 1, []), (13, .aload_n 0, []), (14, .getfield 7, [4, 0, 677]), (17, .bipush 6, []), (19, .aload_n 0, []), (20, .getfield 13, [4, 2, 679]), (23, .iload_n 2, []), (24, .iaload, []), (25, .imul, []), (26, .iconst 3, []), (27, .iadd, []), (28, .iaload, []), (29, .ifCond .ne 7, [23]), (32, .iconst 1, []), (33, .goto 4, [24]), (36, .iconst 0, []), (37, .aload_n 0, []), (38, .getfield 7, [4, 0, 677]), (41, .bipush 6, []), (43, .aload_n 0, []), (44, .getfield 13, [4, 2, 679]), (47, .iload_n 2, []), (48, .iaload, []), (49, .imul, []), (50, .iconst 4, []), (51, .iadd, []), (52, .iaload, []), (53, .ifCond .ne 7, [38]), (56, .iconst 1, []), (57, .goto 4, [39]), (60, .iconst 0, []), (61, .iadd, []), (62, .iadd, []), (63, .istore_n 1, []), (64, .iinc 2 1, []), (67, .goto (-63), [4]), (70, .iload_n 1, []), (71, .ireturn, [])]
def zk_136 : List zR := [(0, .iload_n 1, []), (1, .i2l, []), (2, .lconst 0, []), (3, .ldc2_w 97, [7, 0, 791]), (6, .invokestatic 74, [112, 767, 768]), (9, .ifCond .ne 5, [8]), (12, .iconst (-1), []), (13, .ireturn, []), (14, .iconst 0, []), (15, .istore_n 2, []), (16, .iconst 0, []), (17, .istore_n 3, []), (18, .iconst 0, []), (19, .istore 4, []), (21, .iload 4, []), (23, .aload_n 0, []), (24, .getfield 71, [4, 1, 678]), (27, .if_icmp .ge 56, [51]), (30, .iload_n 2, []), (31, .aload_n 0, []), (32, .getfield 7, [4, 0, 677]), (35, .bipush 6, []), (37, .iload 4, []), (39, .imul, []), (40, .iconst 5, []), (41, .iadd, []), (42, .iaload, []), (43, .ifCond .ne 7, [30]), (46, .iconst 1, []), (47, .goto 4, [31]), (50, .iconst 0, []), (51, .iadd, []), (52, .istore_n 2, []), (53, .iload_n 3, []), (54, .aload_n 0, []), (55, .getfield 7, [4, 0, 677]), (58, .bipush 6, []), (60, .iload 4, []), (62, .imul, []), (63, .iconst 5, []), (64, .iadd, []), (65, .iaload, []), (66, .iconst 1, []), (67, .if_icmp .ne 7, [46]), (70, .iconst 1, []), (71, .goto 4, [47]), (74, .iconst 0, []), (75, .iadd, []), (76, .istore_n 3, []), (77, .iinc 4 1, []), (80, .goto (-59), [14]), (83, .iload_n 1, []), (84, .ifCond .ne 10, [56]), (87, .aload_n 0, []), (88, .getfield 71, [4, 1, 678]), (91, .goto 75, [94]), (94, .iload_n 1, []), (95, .iconst 1, []), (96, .if_icmp .ne 10, [62]), (99, .aload_n 0, []), (100, .getfield 94, [4, 4, 681]), (103, .goto 63, [94]), (106, .iload_n 1, []), (107, .iconst 2, []), (108, .if_icmp .ne 7, [67]), (111, .iload_n 2, []), (112, .goto 54, [94]), (115, .iload_n 1, []), (116, .iconst 3, []), (117, .if_icmp .ne 7, [72]), (120, .iload_n 3, []), (121, .goto 45, [94]), (124, .iload_n 1, []), (125, .bipush 6, []), (127, .if_icmp .ge 14, [82]), (130, .aload_n 0, []), (131, .getfield 19, [4, 5, 682]), (134, .iload_n 1, []), (135, .iconst 4, []), (136, .isub, []), (137, .iaload, []), (138, .goto 28, [94]), (141, .iload_n 1, []), (142, .bipush 6, []), (144, .if_icmp .ne 10, [88]), (147, .aload_n 0, []), (148, .invokevirtual 158, [135, 833, 835, 32]), (151, .goto 15, [94]), (154, .aload_n 0, []), (155, .getfield 137, [4, 6, 683]), (158, .ifCond .eq 7, [93]), (161, .iconst 1, []), (162, .goto 4, [94]), (165, .iconst 0, []), (166, .ireturn, [])]
def zk_137 : List zR := [(0, .iload_n 0, []), (1, .iload_n 1, []), (2, .isub, []), (3, .i2l, []), (4, .ldc2_w 103, [1, 1, 800]), (7, .lconst 1, []), (8, .invokestatic 74, [112, 767, 768]), (11, .ireturn, [])]
def zk_138 : List zR := [(0, .aload_n 0, []), (1, .getfield 94, [4, 4, 681]), (4, .ifCond .eq 43, [27]), (7, .aload_n 0, []), (8, .iload_n 1, []), (9, .iload_n 2, []), (10, .invokevirtual 90, [114, 783, 785, 26]), (13, .aload_n 0, []), (14, .aload_n 0, []), (15, .getfield 13, [4, 2, 679]), (18, .aload_n 0, []), (19, .getfield 94, [4, 4, 681]), (22, .iconst 1, []), (23, .isub, []), (24, .iaload, []), (25, .iconst 1, []), (26, .aload_n 0, []), (27, .getfield 16, [4, 3, 680]), (30, .aload_n 0, []), (31, .getfield 94, [4, 4, 681]), (34, .iconst 1, []), (35, .isub, []), (36, .iaload, []), (37, .isub, []), (38, .invokevirtual 90, [114, 783, 785, 26]), (41, .invokestatic 161, [137, 845, 846]), (44, .ifCond .eq 7, [29]), (47, .iconst 1, []), (48, .goto 4, [30]), (51, .iconst 0, []), (52, .ireturn, [])]
def zk_139 : List zR := [(0, .aload_n 0, []), (1, .iload_n 1, []), (2, .invokevirtual 86, [113, 779, 781, 25]), (5, .ifCond .eq 13, [10]), (8, .iload_n 2, []), (9, .i2l, []), (10, .lconst 0, []), (11, .lconst 1, []), (12, .invokestatic 74, [112, 767, 768]), (15, .ifCond .ne 5, [12]), (18, .iconst (-1), []), (19, .ireturn, []), (20, .aload_n 0, []), (21, .iload_n 1, []), (22, .invokevirtual 99, [118, 792, 794, 27]), (25, .ifCond .ge 10, [19]), (28, .aload_n 0, []), (29, .getfield 137, [4, 6, 683]), (32, .ifCond .eq 8, [21]), (35, .bipush (-2), []), (37, .goto 17, [29]), (40, .aload_n 0, []), (41, .iload_n 1, []), (42, .iload_n 2, []), (43, .invokevirtual 165, [138, 841, 843, 33]), (46, .ifCond .eq 7, [28]), (49, .iconst 1, []), (50, .goto 4, [29]), (53, .iconst 0, []), (54, .ireturn, [])]
def zk_140 : List zR := [(0, .aload_n 0, []), (1, .getfield 94, [4, 4, 681]), (4, .ifCond .le 23, [13]), (7, .aload_n 0, []), (8, .aload_n 0, []), (9, .invokevirtual 168, [132, 860, 862, 36]), (12, .invokevirtual 150, [128, 864, 866, 37]), (15, .aload_n 0, []), (16, .invokevirtual 171, [131, 868, 870, 38]), (19, .ifCond .ne 8, [13]), (22, .aload_n 0, []), (23, .iconst 1, []), (24, .invokevirtual 174, [134, 884, 886, 42]), (27, .aload_n 0, []), (28, .getfield 13, [4, 2, 679]), (31, .aload_n 0, []), (32, .getfield 94, [4, 4, 681]), (35, .iload_n 1, []), (36, .iastore, []), (37, .aload_n 0, []), (38, .getfield 16, [4, 3, 680]), (41, .aload_n 0, []), (42, .getfield 94, [4, 4, 681]), (45, .iload_n 2, []), (46, .iastore, []), (47, .aload_n 0, []), (48, .dup, []), (49, .getfield 94, [4, 4, 681]), (52, .iconst 1, []), (53, .iadd, []), (54, .putfield 94, [4, 4, 681]), (57, .aload_n 0, []), (58, .getfield 94, [4, 4, 681]), (61, .iconst 2, []), (62, .if_icmp .lt 16, [42]), (65, .aload_n 0, []), (66, .invokevirtual 158, [135, 833, 835, 32]), (69, .iconst 2, []), (70, .aload_n 0, []), (71, .getfield 94, [4, 4, 681]), (74, .imul, []), (75, .if_icmp .ge 5, [44]), (78, .iconst 0, []), (79, .ireturn, []), (80, .aload_n 0, []), (81, .getfield 94, [4, 4, 681]), (84, .istore_n 3, []), (85, .iconst 0, []), (86, .istore 4, []), (88, .iload 4, []), (90, .aload_n 0, []), (91, .getfield 94, [4, 4, 681]), (94, .if_icmp .ge 36, [72]), (97, .iload_n 3, []), (98, .aload_n 0, []), (99, .getfield 7, [4, 0, 677]), (102, .bipush 6, []), (104, .aload_n 0, []), (105, .getfield 13, [4, 2, 679]), (108, .iload 4, []), (110, .iaload, []), (111, .imul, []), (112, .iaload, []), (113, .iconst 3, []), (114, .if_icmp .ne 7, [67]), (117, .iconst 1, []), (118, .goto 4, [68]), (121, .iconst 0, []), (122, .iadd, []), (123, .istore_n 3, []), (124, .iinc 4 1, []), (127, .goto (-39), [49]), (130, .iload_n 3, []), (131, .ireturn, [])]
def zk_141 : List zR := [(0, .aload_n 0, []), (1, .iload_n 1, []), (2, .iload_n 2, []), (3, .invokevirtual 177, [140, 856, 858, 35]), (6, .istore_n 3, []), (7, .aload_n 0, []), (8, .getfield 7, [4, 0, 677]), (11, .bipush 6, []), (13, .iload_n 1, []), (14, .imul, []), (15, .iconst 5, []), (16, .iadd, []), (17, .iaload, []), (18, .istore 4, []), (20, .aload_n 0, []), (21, .getfield 19, [4, 5, 682]), (24, .iconst 0, []), (25, .dup2, []), (26, .iaload, []), (27, .iload 4, []), (29, .ifCond .ne 7, [23]), (32, .iload_n 3, []), (33, .goto 4, [24]), (36, .iconst 0, []), (37, .iadd, []), (38, .iastore, []), (39, .aload_n 0, []), (40, .getfield 19, [4, 5, 682]), (43, .iconst 1, []), (44, .dup2, []), (45, .iaload, []), (46, .iload 4, []), (48, .iconst 1, []), (49, .if_icmp .ne 7, [36]), (52, .iload_n 3, []), (53, .goto 4, [37]), (56, .iconst 0, []), (57, .iadd, []), (58, .iastore, []), (59, .aload_n 0, []), (60, .getfield 7, [4, 0, 677]), (63, .bipush 6, []), (65, .iload_n 1, []), (66, .imul, []), (67, .iconst 5, []), (68, .iadd, []), (69, .bipush (-4), []), (71, .iastore, []), (72, .iload_n 3, []), (73, .ireturn, [])]
def zk_142 : List zR := [(0, .aload_n 0, []), (1, .iload_n 1, []), (2, .invokevirtual 86, [113, 779, 781, 25]), (5, .ifCond .eq 13, [10]), (8, .iload_n 2, []), (9, .i2l, []), (10, .lconst 0, []), (11, .lconst 1, []), (12, .invokestatic 74, [112, 767, 768]), (15, .ifCond .ne 5, [12]), (18, .iconst (-1), []), (19, .ireturn, []), (20, .aload_n 0, []), (21, .iload_n 1, []), (22, .invokevirtual 99, [118, 792, 794, 27]), (25, .ifCond .ge 10, [19]), (28, .aload_n 0, []), (29, .getfield 137, [4, 6, 683]), (32, .ifCond .eq 6, [21]), (35, .bipush (-2), []), (37, .ireturn, []), (38, .aload_n 0, []), (39, .iload_n 1, []), (40, .iload_n 2, []), (41, .invokevirtual 165, [138, 841, 843, 33]), (44, .ifCond .eq 12, [31]), (47, .aload_n 0, []), (48, .iload_n 1, []), (49, .iload_n 2, []), (50, .invokevirtual 180, [141, 852, 854, 34]), (53, .goto 5, [32]), (56, .bipush (-4), []), (58, .ireturn, [])]
def zk_143 : List zR := [(0, .iload_n 1, []), (1, .i2l, []), (2, .lconst 1, []), (3, .ldc2_w 183, [12, 0, 895]), (6, .invokestatic 74, [112, 767, 768]), (9, .ifCond .ne 5, [8]), (12, .iconst (-1), []), (13, .ireturn, []), (14, .iload_n 1, []), (15, .aload_n 0, []), (16, .getfield 94, [4, 4, 681]), (19, .if_icmp .le 6, [14]), (22, .bipush (-2), []), (24, .ireturn, []), (25, .aload_n 0, []), (26, .dup, []), (27, .getfield 94, [4, 4, 681]), (30, .iload_n 1, []), (31, .isub, []), (32, .putfield 94, [4, 4, 681]), (35, .aload_n 0, []), (36, .iconst 0, []), (37, .putfield 137, [4, 6, 683]), (40, .aload_n 0, []), (41, .getfield 94, [4, 4, 681]), (44, .ireturn, [])]
def zk_144 : List zR := [(0, .aload_n 0, []), (1, .getfield 137, [4, 6, 683]), (4, .ifCond .eq 7, [5]), (7, .iconst 1, []), (8, .goto 4, [6]), (11, .iconst 0, []), (12, .istore_n 2, []), (13, .aload_n 0, []), (14, .getfield 94, [4, 4, 681]), (17, .iconst 3, []), (18, .if_icmp .lt 57, [43]), (21, .aload_n 0, []), (22, .aload_n 0, []), (23, .getfield 13, [4, 2, 679]), (26, .iconst 0, []), (27, .iaload, []), (28, .aload_n 0, []), (29, .getfield 16, [4, 3, 680]), (32, .iconst 0, []), (33, .iaload, []), (34, .invokevirtual 90, [114, 783, 785, 26]), (37, .aload_n 0, []), (38, .aload_n 0, []), (39, .getfield 13, [4, 2, 679]), (42, .aload_n 0, []), (43, .getfield 94, [4, 4, 681]), (46, .iconst 1, []), (47, .isub, []), (48, .iaload, []), (49, .iconst 1, []), (50, .aload_n 0, []), (51, .getfield 16, [4, 3, 680]), (54, .aload_n 0, []), (55, .getfield 94, [4, 4, 681]), (58, .iconst 1, []), (59, .isub, []), (60, .iaload, []), (61, .isub, []), (62, .invokevirtual 90, [114, 783, 785, 26]), (65, .invokestatic 161, [137, 845, 846]), (68, .ifCond .eq 7, [43]), (71, .iconst 1, []), (72, .goto 4, [44]), (75, .iconst 0, []), (76, .istore_n 3, []), (77, .iload_n 1, []), (78, .ifCond .eq 10, [51]), (81, .iload_n 3, []), (82, .ifCond .ne 6, [51]), (85, .bipush (-2), []), (87, .ireturn, []), (88, .aload_n 0, []), (89, .iload_n 1, []), (90, .putfield 137, [4, 6, 683]), (93, .iload_n 2, []), (94, .ireturn, [])]
def zk_145 : List zR := [(0, .aload_n 0, []), (1, .getfield 94, [4, 4, 681]), (4, .ifCond .ne 6, [5]), (7, .bipush (-4), []), (9, .ireturn, []), (10, .aload_n 0, []), (11, .aload_n 0, []), (12, .invokevirtual 168, [132, 860, 862, 36]), (15, .invokevirtual 150, [128, 864, 866, 37]), (18, .aload_n 0, []), (19, .invokevirtual 147, [129, 876, 878, 40]), (22, .istore_n 1, []), (23, .aload_n 0, []), (24, .invokevirtual 144, [130, 872, 874, 39]), (27, .ifCond .eq 7, [17]), (30, .iconst 1, []), (31, .goto 19, [27]), (34, .iload_n 1, []), (35, .ifCond .ge 7, [21]), (38, .iconst 0, []), (39, .goto 11, [27]), (42, .iconst 2, []), (43, .aload_n 0, []), (44, .getfield 13, [4, 2, 679]), (47, .iload_n 1, []), (48, .iaload, []), (49, .iadd, []), (50, .ireturn, [])]
def zk_146 : List zR := [(0, .iload_n 1, []), (1, .i2l, []), (2, .ldc2_w 185, [99, 1, 908]), (5, .ldc2_w 187, [99, 0, 909]), (8, .invokestatic 74, [112, 767, 768]), (11, .ifCond .ne 5, [8]), (14, .iconst (-1), []), (15, .ireturn, []), (16, .aload_n 0, []), (17, .getfield 94, [4, 4, 681]), (20, .ifCond .ne 6, [13]), (23, .bipush (-4), []), (25, .ireturn, []), (26, .aload_n 0, []), (27, .iload_n 1, []), (28, .ifCond .ge 7, [18]), (31, .iconst (-1), []), (32, .goto 4, [19]), (35, .iconst 1, []), (36, .invokevirtual 150, [128, 864, 866, 37]), (39, .iload_n 1, []), (40, .ifCond .eq 13, [27]), (43, .aload_n 0, []), (44, .invokevirtual 171, [131, 868, 870, 38]), (47, .ifCond .eq 6, [27]), (50, .bipush (-2), []), (52, .ireturn, []), (53, .aload_n 0, []), (54, .iload_n 1, []), (55, .ifCond .ge 8, [33]), (58, .iload_n 1, []), (59, .ineg, []), (60, .goto 4, [34]), (63, .iload_n 1, []), (64, .invokevirtual 174, [134, 884, 886, 42]), (67, .aload_n 0, []), (68, .invokevirtual 158, [135, 833, 835, 32]), (71, .ireturn, [])]
def zk_147 : List zR := [(0, .aload_n 0, []), (1, .iconst 1, []), (2, .invokevirtual 150, [128, 864, 866, 37]), (5, .aload_n 0, []), (6, .invokevirtual 171, [131, 868, 870, 38]), (9, .ireturn, [])]
def zk_148 : List zR := [(0, .iload_n 0, []), (1, .istore_n 2, []), (2, .iload_n 1, []), (3, .istore_n 3, []), (4, .iload_n 3, []), (5, .ifCond .eq 16, [15]), (8, .iload_n 2, []), (9, .iload_n 3, []), (10, .irem, []), (11, .istore 4, []), (13, .iload_n 3, []), (14, .istore_n 2, []), (15, .iload 4, []), (17, .istore_n 3, []), (18, .goto (-14), [4]), (21, .iload_n 2, []), (22, .ireturn, [])]
def zk_149 : List zR := [(0, .iconst 1, []), (1, .istore_n 1, []), (2, .iconst 0, []), (3, .istore_n 2, []), (4, .iload_n 2, []), (5, .iconst 2, []), (6, .aload_n 0, []), (7, .getfield 94, [4, 4, 681]), (10, .imul, []), (11, .if_icmp .ge 35, [32]), (14, .aload_n 0, []), (15, .aload_n 0, []), (16, .getfield 13, [4, 2, 679]), (19, .iload_n 2, []), (20, .iconst 2, []), (21, .idiv, []), (22, .iaload, []), (23, .iload_n 2, []), (24, .iconst 2, []), (25, .irem, []), (26, .invokevirtual 90, [114, 783, 785, 26]), (29, .istore_n 3, []), (30, .iload_n 1, []), (31, .iload_n 1, []), (32, .iload_n 3, []), (33, .invokestatic 189, [148, 922, 923]), (36, .idiv, []), (37, .iload_n 3, []), (38, .imul, []), (39, .istore_n 1, []), (40, .iinc 2 1, []), (43, .goto (-39), [4]), (46, .iload_n 1, []), (47, .ireturn, [])]
def zk_150 : List zR := [(0, .aload_n 0, []), (1, .getfield 94, [4, 4, 681]), (4, .ifCond .ne 8, [5]), (7, .bipush (-4), []), (9, .goto 19, [12]), (12, .aload_n 0, []), (13, .invokevirtual 192, [147, 914, 916, 43]), (16, .ifCond .eq 8, [10]), (19, .bipush (-2), []), (21, .goto 7, [12]), (24, .aload_n 0, []), (25, .invokevirtual 195, [149, 918, 920, 44]), (28, .ireturn, [])]
def zk_151 : List zR := [(0, .iconst 0, []), (1, .iload_n 3, []), (2, .iload_n 2, []), (3, .iload_n 1, []), (4, .isub, []), (5, .imul, []), (6, .iload 4, []), (8, .invokestatic 154, [133, 888, 889]), (11, .ireturn, [])]
def zk_152 : List zR := [(0, .iconst 1, []), (1, .istore_n 2, []), (2, .iconst 0, []), (3, .istore_n 3, []), (4, .iload_n 3, []), (5, .aload_n 0, []), (6, .getfield 94, [4, 4, 681]), (9, .if_icmp .ge 133, [86]), (12, .iload_n 2, []), (13, .ifCond .eq 129, [86]), (16, .aload_n 0, []), (17, .getfield 13, [4, 2, 679]), (20, .iload_n 3, []), (21, .iaload, []), (22, .istore 4, []), (24, .aload_n 0, []), (25, .getfield 16, [4, 3, 680]), (28, .iload_n 3, []), (29, .iaload, []), (30, .istore 5, []), (32, .iload_n 1, []), (33, .aload_n 0, []), (34, .iload 4, []), (36, .iload 5, []), (38, .invokevirtual 90, [114, 783, 785, 26]), (41, .irem, []), (42, .aload_n 0, []), (43, .aload_n 0, []), (44, .getfield 7, [4, 0, 677]), (47, .bipush 6, []), (49, .iload 4, []), (51, .imul, []), (52, .iconst 3, []), (53, .iadd, []), (54, .iload 5, []), (56, .iadd, []), (57, .iaload, []), (58, .iconst 0, []), (59, .aload_n 0, []), (60, .getfield 32, [4, 13, 690]), (63, .iload_n 3, []), (64, .iaload, []), (65, .aload_n 0, []), (66, .iload 4, []), (68, .iload 5, []), (70, .invokevirtual 90, [114, 783, 785, 26]), (73, .invokevirtual 198, [151, 933, 935, 46]), (76, .if_icmp .ne 58, [82]), (79, .iload_n 1, []), (80, .aload_n 0, []), (81, .iload 4, []), (83, .iconst 1, []), (84, .iload 5, []), (86, .isub, []), (87, .invokevirtual 90, [114, 783, 785, 26]), (90, .irem, []), (91, .aload_n 0, []), (92, .aload_n 0, []), (93, .getfield 7, [4, 0, 677]), (96, .bipush 6, []), (98, .iload 4, []), (100, .imul, []), (101, .iconst 4, []), (102, .iadd, []), (103, .iload 5, []), (105, .isub, []), (106, .iaload, []), (107, .iconst 0, []), (108, .aload_n 0, []), (109, .getfield 35, [4, 14, 691]), (112, .iload_n 3, []), (113, .iaload, []), (114, .aload_n 0, []), (115, .iload 4, []), (117, .iconst 1, []), (118, .iload 5, []), (120, .isub, []), (121, .invokevirtual 90, [114, 783, 785, 26]), (124, .invokevirtual 198, [151, 933, 935, 46]), (127, .if_icmp .ne 7, [82]), (130, .iconst 1, []), (131, .goto 4, [83]), (134, .iconst 0, []), (135, .istore_n 2, []), (136, .iinc 3 1, []), (139, .goto (-135), [4]), (142, .iload_n 2, []), (143, .ireturn, [])]
def zk_153 : List zR := [(0, .aload_n 0, []), (1, .getfield 94, [4, 4, 681]), (4, .ifCond .ne 6, [5]), (7, .bipush (-4), []), (9, .ireturn, []), (10, .aload_n 0, []), (11, .invokevirtual 192, [147, 914, 916, 43]), (14, .ifCond .eq 6, [10]), (17, .bipush (-2), []), (19, .ireturn, []), (20, .aload_n 0, []), (21, .invokevirtual 195, [149, 918, 920, 44]), (24, .istore_n 1, []), (25, .iconst 0, []), (26, .istore_n 2, []), (27, .iload_n 2, []), (28, .iload_n 1, []), (29, .if_icmp .ge 19, [26]), (32, .aload_n 0, []), (33, .iload_n 2, []), (34, .invokevirtual 202, [152, 929, 931, 45]), (37, .ifCond .eq 5, [24]), (40, .iload_n 2, []), (41, .ireturn, []), (42, .iinc 2 1, []), (45, .goto (-18), [15]), (48, .bipush (-4), []), (50, .ireturn, [])]
def zk_154 : List zR := [(0, .aload_n 0, []), (1, .iload_n 1, []), (2, .invokevirtual 86, [113, 779, 781, 25]), (5, .ifCond .eq 11, [8]), (8, .aload_n 0, []), (9, .iload_n 1, []), (10, .invokevirtual 99, [118, 792, 794, 27]), (13, .goto 5, [9]), (16, .bipush (-4), []), (18, .istore_n 3, []), (19, .iload_n 3, []), (20, .ifCond .lt 28, [29]), (23, .iload_n 2, []), (24, .i2l, []), (25, .lconst 0, []), (26, .aload_n 0, []), (27, .iload_n 1, []), (28, .iconst 1, []), (29, .aload_n 0, []), (30, .getfield 16, [4, 3, 680]), (33, .iload_n 3, []), (34, .iaload, []), (35, .isub, []), (36, .invokevirtual 90, [114, 783, 785, 26]), (39, .iconst 1, []), (40, .isub, []), (41, .i2l, []), (42, .invokestatic 74, [112, 767, 768]), (45, .ifCond .ne 5, [31]), (48, .iconst (-1), []), (49, .ireturn, []), (50, .aload_n 0, []), (51, .invokevirtual 192, [147, 914, 916, 43]), (54, .ifCond .eq 6, [36]), (57, .bipush (-2), []), (59, .ireturn, []), (60, .iconst 1, []), (61, .aload_n 0, []), (62, .getfield 16, [4, 3, 680]), (65, .iload_n 3, []), (66, .iaload, []), (67, .isub, []), (68, .istore 4, []), (70, .aload_n 0, []), (71, .aload_n 0, []), (72, .getfield 7, [4, 0, 677]), (75, .bipush 6, []), (77, .iload_n 1, []), (78, .imul, []), (79, .iconst 3, []), (80, .iadd, []), (81, .iload 4, []), (83, .iadd, []), (84, .iaload, []), (85, .iload_n 2, []), (86, .aload_n 0, []), (87, .getfield 35, [4, 14, 691]), (90, .iload_n 3, []), (91, .iaload, []), (92, .aload_n 0, []), (93, .iload_n 1, []), (94, .iload 4, []), (96, .invokevirtual 90, [114, 783, 785, 26]), (99, .invokevirtual 198, [151, 933, 935, 46]), (102, .ireturn, [])]
def zk_155 : List zR := [(0, .iconst 0, []), (1, .istore_n 2, []), (2, .iload_n 2, []), (3, .bipush 72, []), (5, .if_icmp .ge 18, [14]), (8, .aload_n 1, []), (9, .iload_n 2, []), (10, .aload_n 0, []), (11, .getfield 7, [4, 0, 677]), (14, .iload_n 2, []), (15, .iaload, []), (16, .iastore, []), (17, .iinc 2 1, []), (20, .goto (-18), [2]), (23, .return_, [])]
def zk_156 : List zR := [(0, .iconst 0, []), (1, .istore_n 3, []), (2, .iload_n 3, []), (3, .bipush 72, []), (5, .if_icmp .ge 18, [14]), (8, .aload_n 0, []), (9, .getfield 7, [4, 0, 677]), (12, .iload_n 3, []), (13, .aload_n 1, []), (14, .iload_n 3, []), (15, .iaload, []), (16, .iastore, []), (17, .iinc 3 1, []), (20, .goto (-18), [2]), (23, .aload_n 0, []), (24, .iload_n 2, []), (25, .putfield 94, [4, 4, 681]), (28, .return_, [])]
def zk_157 : List zR := [(0, .iconst 0, []), (1, .istore_n 2, []), (2, .aload_n 0, []), (3, .getfield 94, [4, 4, 681]), (6, .istore_n 3, []), (7, .aload_n 0, []), (8, .aload_n 0, []), (9, .getfield 41, [4, 16, 693]), (12, .invokevirtual 205, [155, 946, 948, 47]), (15, .iconst 0, []), (16, .istore 4, []), (18, .iload 4, []), (20, .iconst 2, []), (21, .aload_n 0, []), (22, .getfield 71, [4, 1, 678]), (25, .imul, []), (26, .if_icmp .ge 89, [67]), (29, .aload_n 0, []), (30, .getfield 7, [4, 0, 677]), (33, .bipush 6, []), (35, .iload 4, []), (37, .iconst 2, []), (38, .idiv, []), (39, .imul, []), (40, .iconst 5, []), (41, .iadd, []), (42, .iaload, []), (43, .iload_n 1, []), (44, .if_icmp .ne 65, [65]), (47, .aload_n 0, []), (48, .iload 4, []), (50, .iconst 2, []), (51, .idiv, []), (52, .invokevirtual 99, [118, 792, 794, 27]), (55, .ifCond .ge 54, [65]), (58, .aload_n 0, []), (59, .iload 4, []), (61, .iconst 2, []), (62, .idiv, []), (63, .iload 4, []), (65, .iconst 2, []), (66, .irem, []), (67, .invokevirtual 165, [138, 841, 843, 33]), (70, .ifCond .eq 39, [65]), (73, .aload_n 0, []), (74, .iload 4, []), (76, .iconst 2, []), (77, .idiv, []), (78, .iload 4, []), (80, .iconst 2, []), (81, .irem, []), (82, .invokevirtual 177, [140, 856, 858, 35]), (85, .istore 5, []), (87, .iload 5, []), (89, .iload_n 2, []), (90, .if_icmp .le 8, [58]), (93, .iload 5, []), (95, .goto 4, [59]), (98, .iload_n 2, []), (99, .istore_n 2, []), (100, .aload_n 0, []), (101, .aload_n 0, []), (102, .getfield 41, [4, 16, 693]), (105, .iload_n 3, []), (106, .invokevirtual 209, [156, 954, 956, 49]), (109, .iinc 4 1, []), (112, .goto (-94), [11]), (115, .iload_n 2, []), (116, .ireturn, [])]
def zk_158 : List zR := [(0, .iload_n 1, []), (1, .i2l, []), (2, .lconst 0, []), (3, .lconst 1, []), (4, .invokestatic 74, [112, 767, 768]), (7, .ifCond .eq 15, [12]), (10, .iload_n 2, []), (11, .i2l, []), (12, .lconst 0, []), (13, .ldc2_w 213, [2, 0, 945]), (16, .invokestatic 74, [112, 767, 768]), (19, .ifCond .ne 5, [14]), (22, .iconst (-1), []), (23, .ireturn, []), (24, .aload_n 0, []), (25, .getfield 137, [4, 6, 683]), (28, .ifCond .eq 6, [19]), (31, .bipush (-2), []), (33, .ireturn, []), (34, .bipush (-4), []), (36, .istore_n 3, []), (37, .sipush (-999), []), (40, .istore 4, []), (42, .aload_n 0, []), (43, .getfield 94, [4, 4, 681]), (46, .istore 5, []), (48, .aload_n 0, []), (49, .aload_n 0, []), (50, .getfield 38, [4, 15, 692]), (53, .invokevirtual 205, [155, 946, 948, 47]), (56, .iconst 0, []), (57, .istore 6, []), (59, .iload 6, []), (61, .iconst 2, []), (62, .aload_n 0, []), (63, .getfield 71, [4, 1, 678]), (66, .imul, []), (67, .if_icmp .ge 104, [95]), (70, .aload_n 0, []), (71, .getfield 7, [4, 0, 677]), (74, .bipush 6, []), (76, .iload 6, []), (78, .iconst 2, []), (79, .idiv, []), (80, .imul, []), (81, .iconst 5, []), (82, .iadd, []), (83, .iaload, []), (84, .iload_n 1, []), (85, .if_icmp .ne 80, [93]), (88, .aload_n 0, []), (89, .iload 6, []), (91, .iconst 2, []), (92, .idiv, []), (93, .iload 6, []), (95, .iconst 2, []), (96, .irem, []), (97, .invokevirtual 165, [138, 841, 843, 33]), (100, .ifCond .eq 65, [93]), (103, .aload_n 0, []), (104, .iload 6, []), (106, .iconst 2, []), (107, .idiv, []), (108, .iload 6, []), (110, .iconst 2, []), (111, .irem, []), (112, .invokevirtual 177, [140, 856, 858, 35]), (115, .aload_n 0, []), (116, .iconst 1, []), (117, .iload_n 1, []), (118, .isub, []), (119, .invokevirtual 215, [157, 950, 952, 48]), (122, .isub, []), (123, .istore 7, []), (125, .iload 7, []), (127, .iload 4, []), (129, .if_icmp .le 8, [79]), (132, .iload 6, []), (134, .goto 4, [80]), (137, .iload_n 3, []), (138, .istore_n 3, []), (139, .iload 7, []), (141, .iload 4, []), (143, .if_icmp .le 8, [86]), (146, .iload 7, []), (148, .goto 5, [87]), (151, .iload 4, []), (153, .istore 4, []), (155, .aload_n 0, []), (156, .aload_n 0, []), (157, .getfield 38, [4, 15, 692]), (160, .iload 5, []), (162, .invokevirtual 209, [156, 954, 956, 49]), (165, .iinc 6 1, []), (168, .goto (-109), [32]), (171, .iload_n 3, []), (172, .ifCond .ge 8, [99]), (175, .bipush (-4), []), (177, .goto 29, [115]), (180, .iload_n 2, []), (181, .ifCond .ne 9, [105]), (184, .iload_n 3, []), (185, .iconst 2, []), (186, .idiv, []), (187, .goto 19, [115]), (190, .iload_n 2, []), (191, .iconst 1, []), (192, .if_icmp .ne 9, [112]), (195, .iload_n 3, []), (196, .iconst 2, []), (197, .irem, []), (198, .goto 8, [115]), (201, .iload 4, []), (203, .bipush 100, []), (205, .iadd, []), (206, .ireturn, [])]
def zk_159 : List zR := [(0, .iconst 0, []), (1, .istore_n 3, []), (2, .iconst 0, []), (3, .istore 4, []), (5, .iload 4, []), (7, .iconst 2, []), (8, .aload_n 0, []), (9, .getfield 71, [4, 1, 678]), (12, .imul, []), (13, .if_icmp .ge 53, [39]), (16, .aload_n 0, []), (17, .getfield 7, [4, 0, 677]), (20, .bipush 6, []), (22, .iload 4, []), (24, .iconst 2, []), (25, .idiv, []), (26, .imul, []), (27, .iconst 5, []), (28, .iadd, []), (29, .iaload, []), (30, .iload_n 1, []), (31, .if_icmp .ne 29, [37]), (34, .aload_n 0, []), (35, .iload 4, []), (37, .iconst 2, []), (38, .idiv, []), (39, .iload 4, []), (41, .iconst 2, []), (42, .irem, []), (43, .invokevirtual 165, [138, 841, 843, 33]), (46, .ifCond .eq 14, [37]), (49, .iload_n 3, []), (50, .iload_n 2, []), (51, .if_icmp .ne 6, [36]), (54, .iload 4, []), (56, .ireturn, []), (57, .iinc 3 1, []), (60, .iinc 4 1, []), (63, .goto (-58), [4]), (66, .iload_n 2, []), (67, .ifCond .ge 7, [43]), (70, .iload_n 3, []), (71, .goto 5, [44]), (74, .bipush (-4), []), (76, .ireturn, [])]
def zk_160 : List zR := [(0, .iload_n 1, []), (1, .i2l, []), (2, .lconst 1, []), (3, .ldc2_w 218, [24, 0, 962]), (6, .invokestatic 74, [112, 767, 768]), (9, .ifCond .ne 5, [8]), (12, .iconst (-1), []), (13, .ireturn, []), (14, .aload_n 0, []), (15, .getfield 137, [4, 6, 683]), (18, .ifCond .eq 6, [13]), (21, .bipush (-2), []), (23, .ireturn, []), (24, .iconst 0, []), (25, .istore_n 2, []), (26, .iconst 0, []), (27, .istore_n 3, []), (28, .iload_n 3, []), (29, .iload_n 1, []), (30, .if_icmp .ge 81, [65]), (33, .aload_n 0, []), (34, .iload_n 3, []), (35, .iconst 2, []), (36, .irem, []), (37, .iconst (-1), []), (38, .invokevirtual 220, [159, 963, 965, 50]), (41, .istore 4, []), (43, .iload 4, []), (45, .ifCond .le 60, [63]), (48, .aload_n 0, []), (49, .aload_n 0, []), (50, .getfield 22, [4, 7, 684]), (53, .i2l, []), (54, .ldc2_w 223, [1103515245, 0, 967]), (57, .lmul, []), (58, .ldc2_w 225, [12345, 0, 968]), (61, .ladd, []), (62, .ldc2_w 227, [2147483647, 0, 969]), (65, .land, []), (66, .l2i, []), (67, .putfield 22, [4, 7, 684]), (70, .aload_n 0, []), (71, .iload_n 3, []), (72, .iconst 2, []), (73, .irem, []), (74, .aload_n 0, []), (75, .getfield 22, [4, 7, 684]), (78, .ldc 229, [65536, 0, 970]), (80, .idiv, []), (81, .iload 4, []), (83, .irem, []), (84, .invokevirtual 220, [159, 963, 965, 50]), (87, .istore 5, []), (89, .aload_n 0, []), (90, .iload 5, []), (92, .iconst 2, []), (93, .idiv, []), (94, .iload 5, []), (96, .iconst 2, []), (97, .irem, []), (98, .invokevirtual 180, [141, 852, 854, 34]), (101, .pop, []), (102, .iinc 2 1, []), (105, .iinc 3 1, []), (108, .goto (-80), [17]), (111, .iload_n 2, []), (112, .ireturn, [])]
def zk_161 : List zR := [(0, .iload_n 1, []), (1, .ifCond .ge 5, [4]), (4, .iconst (-1), []), (5, .ireturn, []), (6, .aload_n 0, []), (7, .getfield 22, [4, 7, 684]), (10, .istore_n 2, []), (11, .aload_n 0, []), (12, .iload_n 1, []), (13, .putfield 22, [4, 7, 684]), (16, .iload_n 2, []), (17, .ireturn, [])]
def zk_162 : List zR := [(0, .aload_n 0, []), (1, .aload_n 0, []), (2, .getfield 44, [4, 18, 695]), (5, .invokevirtual 205, [155, 946, 948, 47]), (8, .iconst 0, []), (9, .istore_n 1, []), (10, .iload_n 1, []), (11, .bipush 12, []), (13, .if_icmp .ge 36, [29]), (16, .aload_n 0, []), (17, .getfield 47, [4, 19, 696]), (20, .iload_n 1, []), (21, .aload_n 0, []), (22, .getfield 13, [4, 2, 679]), (25, .iload_n 1, []), (26, .iaload, []), (27, .iastore, []), (28, .aload_n 0, []), (29, .getfield 47, [4, 19, 696]), (32, .bipush 12, []), (34, .iload_n 1, []), (35, .iadd, []), (36, .aload_n 0, []), (37, .getfield 16, [4, 3, 680]), (40, .iload_n 1, []), (41, .iaload, []), (42, .iastore, []), (43, .iinc 1 1, []), (46, .goto (-36), [6]), (49, .aload_n 0, []), (50, .getfield 50, [4, 20, 697]), (53, .iconst 0, []), (54, .aload_n 0, []), (55, .getfield 71, [4, 1, 678]), (58, .iastore, []), (59, .aload_n 0, []), (60, .getfield 50, [4, 20, 697]), (63, .iconst 1, []), (64, .aload_n 0, []), (65, .getfield 94, [4, 4, 681]), (68, .iastore, []), (69, .aload_n 0, []), (70, .getfield 50, [4, 20, 697]), (73, .iconst 2, []), (74, .aload_n 0, []), (75, .getfield 19, [4, 5, 682]), (78, .iconst 0, []), (79, .iaload, []), (80, .iastore, []), (81, .aload_n 0, []), (82, .getfield 50, [4, 20, 697]), (85, .iconst 3, []), (86, .aload_n 0, []), (87, .getfield 19, [4, 5, 682]), (90, .iconst 1, []), (91, .iaload, []), (92, .iastore, []), (93, .aload_n 0, []), (94, .getfield 50, [4, 20, 697]), (97, .iconst 4, []), (98, .aload_n 0, []), (99, .getfield 137, [4, 6, 683]), (102, .ifCond .eq 7, [65]), (105, .iconst 1, []), (106, .goto 4, [66]), (109, .iconst 0, []), (110, .iastore, []), (111, .aload_n 0, []), (112, .getfield 50, [4, 20, 697]), (115, .iconst 5, []), (116, .aload_n 0, []), (117, .getfield 22, [4, 7, 684]), (120, .iastore, []), (121, .aload_n 0, []), (122, .iconst 1, []), (123, .putfield 230, [4, 17, 694]), (126, .iconst 1, []), (127, .ireturn, [])]
def zk_163 : List zR := [(0, .aload_n 0, []), (1, .getfield 230, [4, 17, 694]), (4, .ifCond .ne 6, [5]), (7, .bipush (-4), []), (9, .ireturn, []), (10, .aload_n 0, []), (11, .aload_n 0, []), (12, .getfield 44, [4, 18, 695]), (15, .aload_n 0, []), (16, .getfield 50, [4, 20, 697]), (19, .iconst 1, []), (20, .iaload, []), (21, .invokevirtual 209, [156, 954, 956, 49]), (24, .iconst 0, []), (25, .istore_n 1, []), (26, .iload_n 1, []), (27, .bipush 12, []), (29, .if_icmp .ge 36, [38]), (32, .aload_n 0, []), (33, .getfield 13, [4, 2, 679]), (36, .iload_n 1, []), (37, .aload_n 0, []), (38, .getfield 47, [4, 19, 696]), (41, .iload_n 1, []), (42, .iaload, []), (43, .iastore, []), (44, .aload_n 0, []), (45, .getfield 16, [4, 3, 680]), (48, .iload_n 1, []), (49, .aload_n 0, []), (50, .getfield 47, [4, 19, 696]), (53, .bipush 12, []), (55, .iload_n 1, []), (56, .iadd, []), (57, .iaload, []), (58, .iastore, []), (59, .iinc 1 1, []), (62, .goto (-36), [15]), (65, .aload_n 0, []), (66, .aload_n 0, []), (67, .getfield 50, [4, 20, 697]), (70, .iconst 0, []), (71, .iaload, []), (72, .putfield 71, [4, 1, 678]), (75, .aload_n 0, []), (76, .getfield 19, [4, 5, 682]), (79, .iconst 0, []), (80, .aload_n 0, []), (81, .getfield 50, [4, 20, 697]), (84, .iconst 2, []), (85, .iaload, []), (86, .iastore, []), (87, .aload_n 0, []), (88, .getfield 19, [4, 5, 682]), (91, .iconst 1, []), (92, .aload_n 0, []), (93, .getfield 50, [4, 20, 697]), (96, .iconst 3, []), (97, .iaload, []), (98, .iastore, []), (99, .aload_n 0, []), (100, .aload_n 0, []), (101, .getfield 50, [4, 20, 697]), (104, .iconst 4, []), (105, .iaload, []), (106, .iconst 1, []), (107, .if_icmp .ne 7, [69]), (110, .iconst 1, []), (111, .goto 4, [70]), (114, .iconst 0, []), (115, .putfield 137, [4, 6, 683]), (118, .aload_n 0, []), (119, .aload_n 0, []), (120, .getfield 50, [4, 20, 697]), (123, .iconst 5, []), (124, .iaload, []), (125, .putfield 22, [4, 7, 684]), (128, .iconst 1, []), (129, .ireturn, [])]
def zk_164 : List zR := [(0, .iload_n 0, []), (1, .i2l, []), (2, .lconst 0, []), (3, .ldc2_w 78, [3, 0, 766]), (6, .invokestatic 74, [112, 767, 768]), (9, .ifCond .eq 19, [14]), (12, .iload_n 1, []), (13, .i2l, []), (14, .lconst 0, []), (15, .ldc2_w 213, [2, 0, 945]), (18, .invokestatic 74, [112, 767, 768]), (21, .ifCond .eq 7, [14]), (24, .iconst 1, []), (25, .goto 4, [15]), (28, .iconst 0, []), (29, .ireturn, [])]
def zk_165 : List zR := [(0, .iload_n 1, []), (1, .iload_n 2, []), (2, .invokestatic 233, [164, 987, 988]), (5, .ifCond .eq 9, [7]), (8, .iload_n 3, []), (9, .bipush 24, []), (11, .if_icmp .le 5, [9]), (14, .iconst (-1), []), (15, .ireturn, []), (16, .iload_n 3, []), (17, .ifCond .ge 6, [13]), (20, .bipush (-14), []), (22, .ireturn, []), (23, .aload_n 0, []), (24, .getfield 53, [4, 21, 698]), (27, .iload_n 1, []), (28, .iload_n 2, []), (29, .iastore, []), (30, .aload_n 0, []), (31, .getfield 56, [4, 22, 699]), (34, .iload_n 1, []), (35, .iload_n 3, []), (36, .iastore, []), (37, .iconst 0, []), (38, .istore 4, []), (40, .iload 4, []), (42, .bipush 24, []), (44, .if_icmp .ge 22, [39]), (47, .aload_n 0, []), (48, .getfield 59, [4, 23, 700]), (51, .bipush 24, []), (53, .iload_n 1, []), (54, .imul, []), (55, .iload 4, []), (57, .iadd, []), (58, .iconst 0, []), (59, .iastore, []), (60, .iinc 4 1, []), (63, .goto (-23), [25]), (66, .iload_n 3, []), (67, .ireturn, [])]
def zk_166 : List zR := [(0, .iload_n 1, []), (1, .i2l, []), (2, .lconst 0, []), (3, .ldc2_w 78, [3, 0, 766]), (6, .invokestatic 74, [112, 767, 768]), (9, .ifCond .ne 5, [8]), (12, .iconst (-1), []), (13, .ireturn, []), (14, .aload_n 0, []), (15, .getfield 53, [4, 21, 698]), (18, .iload_n 1, []), (19, .iaload, []), (20, .ifCond .ge 6, [15]), (23, .bipush (-11), []), (25, .ireturn, []), (26, .aload_n 0, []), (27, .getfield 53, [4, 21, 698]), (30, .iload_n 1, []), (31, .iconst (-1), []), (32, .iastore, []), (33, .aload_n 0, []), (34, .getfield 56, [4, 22, 699]), (37, .iload_n 1, []), (38, .iaload, []), (39, .ireturn, [])]
def zk_167 : List zR := [(0, .aload_n 0, []), (1, .getfield 53, [4, 21, 698]), (4, .iload_n 1, []), (5, .iaload, []), (6, .iload_n 2, []), (7, .if_icmp .eq 20, [15]), (10, .aload_n 0, []), (11, .getfield 53, [4, 21, 698]), (14, .iload_n 1, []), (15, .iaload, []), (16, .ifCond .ge 8, [13]), (19, .bipush (-11), []), (21, .goto 5, [14]), (24, .bipush (-12), []), (26, .ireturn, []), (27, .iload_n 3, []), (28, .i2l, []), (29, .lconst 0, []), (30, .aload_n 0, []), (31, .getfield 56, [4, 22, 699]), (34, .iload_n 1, []), (35, .iaload, []), (36, .iload 4, []), (38, .isub, []), (39, .i2l, []), (40, .invokestatic 74, [112, 767, 768]), (43, .ifCond .eq 7, [29]), (46, .iconst 0, []), (47, .goto 5, [30]), (50, .bipush (-13), []), (52, .ireturn, [])]
def zk_168 : List zR := [(0, .iload_n 1, []), (1, .iload_n 2, []), (2, .invokestatic 233, [164, 987, 988]), (5, .ifCond .ne 5, [6]), (8, .iconst (-1), []), (9, .ireturn, []), (10, .aload_n 0, []), (11, .iload_n 1, []), (12, .iload_n 2, []), (13, .iload_n 3, []), (14, .iconst 1, []), (15, .invokevirtual 236, [167, 998, 1000, 51]), (18, .istore 5, []), (20, .iload 5, []), (22, .ifCond .ge 6, [17]), (25, .iload 5, []), (27, .ireturn, []), (28, .aload_n 0, []), (29, .getfield 59, [4, 23, 700]), (32, .bipush 24, []), (34, .iload_n 1, []), (35, .imul, []), (36, .iload_n 3, []), (37, .iadd, []), (38, .iload_n 2, []), (39, .ifCond .ne 14, [32]), (42, .iload 4, []), (44, .bipush 24, []), (46, .ishl, []), (47, .bipush 24, []), (49, .ishr, []), (50, .goto 21, [42]), (53, .iload_n 2, []), (54, .iconst 1, []), (55, .if_icmp .ne 14, [41]), (58, .iload 4, []), (60, .bipush 16, []), (62, .ishl, []), (63, .bipush 16, []), (65, .ishr, []), (66, .goto 5, [42]), (69, .iload 4, []), (71, .iastore, []), (72, .iconst 1, []), (73, .ireturn, [])]
def zk_169 : List zR := [(0, .iload_n 1, []), (1, .iload_n 2, []), (2, .invokestatic 233, [164, 987, 988]), (5, .ifCond .eq 16, [10]), (8, .iload 4, []), (10, .i2l, []), (11, .lconst 1, []), (12, .ldc2_w 183, [12, 0, 895]), (15, .invokestatic 74, [112, 767, 768]), (18, .ifCond .ne 5, [12]), (21, .iconst (-1), []), (22, .ireturn, []), (23, .aload_n 0, []), (24, .iload_n 1, []), (25, .iload_n 2, []), (26, .iload_n 3, []), (27, .iconst 2, []), (28, .iload 4, []), (30, .imul, []), (31, .invokevirtual 236, [167, 998, 1000, 51]), (34, .istore 5, []), (36, .iload 5, []), (38, .ifCond .ge 6, [25]), (41, .iload 5, []), (43, .ireturn, []), (44, .bipush 24, []), (46, .iload_n 1, []), (47, .imul, []), (48, .iload_n 3, []), (49, .iadd, []), (50, .istore 6, []), (52, .iconst 0, []), (53, .istore 7, []), (55, .iload 7, []), (57, .iload 4, []), (59, .if_icmp .ge 54, [66]), (62, .aload_n 0, []), (63, .aload_n 0, []), (64, .getfield 59, [4, 23, 700]), (67, .iload 6, []), (69, .iconst 2, []), (70, .iload 7, []), (72, .imul, []), (73, .iadd, []), (74, .iaload, []), (75, .invokevirtual 86, [113, 779, 781, 25]), (78, .ifCond .eq 26, [62]), (81, .aload_n 0, []), (82, .getfield 59, [4, 23, 700]), (85, .iload 6, []), (87, .iconst 2, []), (88, .iload 7, []), (90, .imul, []), (91, .iadd, []), (92, .iconst 1, []), (93, .iadd, []), (94, .iaload, []), (95, .i2l, []), (96, .lconst 0, []), (97, .lconst 1, []), (98, .invokestatic 74, [112, 767, 768]), (101, .ifCond .ne 6, [64]), (104, .bipush (-2), []), (106, .ireturn, []), (107, .iinc 7 1, []), (110, .goto (-55), [33]), (113, .iconst 0, []), (114, .istore 7, []), (116, .iconst 0, []), (117, .istore 8, []), (119, .iconst 0, []), (120, .istore 9, []), (122, .iload 9, []), (124, .iload 4, []), (126, .if_icmp .ge 95, [128]), (129, .aload_n 0, []), (130, .getfield 59, [4, 23, 700]), (133, .iload 6, []), (135, .iconst 2, []), (136, .iload 9, []), (138, .imul, []), (139, .iadd, []), (140, .iaload, []), (141, .istore 10, []), (143, .aload_n 0, []), (144, .getfield 59, [4, 23, 700]), (147, .iload 6, []), (149, .iconst 2, []), (150, .iload 9, []), (152, .imul, []), (153, .iadd, []), (154, .iconst 1, []), (155, .iadd, []), (156, .iaload, []), (157, .istore 11, []), (159, .iload 7, []), (161, .iload 10, []), (163, .ishr, []), (164, .iconst 1, []), (165, .iand, []), (166, .iconst 1, []), (167, .if_icmp .eq 24, [111]), (170, .iload 9, []), (172, .ifCond .le 22, [113]), (175, .aload_n 0, []), (176, .iload 10, []), (178, .iload 11, []), (180, .invokevirtual 90, [114, 783, 785, 26]), (183, .iload 8, []), (185, .invokestatic 161, [137, 845, 846]), (188, .ifCond .ne 6, [113]), (191, .iload 9, []), (193, .ireturn, []), (194, .iload 7, []), (196, .iconst 1, []), (197, .iload 10, []), (199, .ishl, []), (200, .ior, []), (201, .istore 7, []), (203, .aload_n 0, []), (204, .iload 10, []), (206, .iconst 1, []), (207, .iload 11, []), (209, .isub, []), (210, .invokevirtual 90, [114, 783, 785, 26]), (213, .istore 8, []), (215, .iinc 9 1, []), (218, .goto (-96), [72]), (221, .bipush (-4), []), (223, .ireturn, [])]
def zk_170 : List zR := [(0, .aload_n 0, []), (1, .getfield 239, [4, 27, 704]), (4, .iconst 2, []), (5, .isub, []), (6, .istore_n 1, []), (7, .iload_n 1, []), (8, .ifCond .lt 26, [20]), (11, .aload_n 0, []), (12, .getfield 62, [4, 24, 701]), (15, .iload_n 1, []), (16, .iaload, []), (17, .aload_n 0, []), (18, .getfield 62, [4, 24, 701]), (21, .iload_n 1, []), (22, .iconst 1, []), (23, .iadd, []), (24, .iaload, []), (25, .if_icmp .le 9, [20]), (28, .iinc 1 (-1), []), (31, .goto (-24), [5]), (34, .iload_n 1, []), (35, .ifCond .ge 5, [24]), (38, .iconst 0, []), (39, .ireturn, []), (40, .aload_n 0, []), (41, .getfield 239, [4, 27, 704]), (44, .iconst 1, []), (45, .isub, []), (46, .istore_n 2, []), (47, .aload_n 0, []), (48, .getfield 62, [4, 24, 701]), (51, .iload_n 2, []), (52, .iaload, []), (53, .aload_n 0, []), (54, .getfield 62, [4, 24, 701]), (57, .iload_n 1, []), (58, .iaload, []), (59, .if_icmp .ge 9, [40]), (62, .iinc 2 (-1), []), (65, .goto (-18), [29]), (68, .aload_n 0, []), (69, .getfield 62, [4, 24, 701]), (72, .iload_n 1, []), (73, .iaload, []), (74, .istore_n 3, []), (75, .aload_n 0, []), (76, .getfield 62, [4, 24, 701]), (79, .iload_n 1, []), (80, .aload_n 0, []), (81, .getfield 62, [4, 24, 701]), (84, .iload_n 2, []), (85, .iaload, []), (86, .iastore, []), (87, .aload_n 0, []), (88, .getfield 62, [4, 24, 701]), (91, .iload_n 2, []), (92, .iload_n 3, []), (93, .iastore, []), (94, .aload_n 0, []), (95, .getfield 239, [4, 27, 704]), (98, .iconst 1, []), (99, .isub, []), (100, .istore 4, []), (102, .iload_n 1, []), (103, .iconst 1, []), (104, .iadd, []), (105, .istore 5, []), (107, .iload 5, []), (109, .iload 4, []), (111, .if_icmp .ge 42, [91]), (114, .aload_n 0, []), (115, .getfield 62, [4, 24, 701]), (118, .iload 5, []), (120, .iaload, []), (121, .istore_n 3, []), (122, .aload_n 0, []), (123, .getfield 62, [4, 24, 701]), (126, .iload 5, []), (128, .aload_n 0, []), (129, .getfield 62, [4, 24, 701]), (132, .iload 4, []), (134, .iaload, []), (135, .iastore, []), (136, .aload_n 0, []), (137, .getfield 62, [4, 24, 701]), (140, .iload 4, []), (142, .iload_n 3, []), (143, .iastore, []), (144, .iinc 4 (-1), []), (147, .iinc 5 1, []), (150, .goto (-43), [67]), (153, .iconst 1, []), (154, .ireturn, [])]
def zk_171 : List zR := [(0, .aload_n 0, []), (1, .iconst 0, []), (2, .putfield 94, [4, 4, 681]), (5, .iconst 1, []), (6, .istore_n 3, []), (7, .iconst 0, []), (8, .istore 4, []), (10, .iload 4, []), (12, .aload_n 0, []), (13, .getfield 239, [4, 27, 704]), (16, .if_icmp .ge 43, [33]), (19, .iload_n 3, []), (20, .ifCond .eq 39, [33]), (23, .aload_n 0, []), (24, .aload_n 0, []), (25, .getfield 62, [4, 24, 701]), (28, .iload 4, []), (30, .iaload, []), (31, .iconst 0, []), (32, .invokevirtual 165, [138, 841, 843, 33]), (35, .istore_n 3, []), (36, .iload_n 3, []), (37, .ifCond .eq 16, [31]), (40, .aload_n 0, []), (41, .aload_n 0, []), (42, .getfield 62, [4, 24, 701]), (45, .iload 4, []), (47, .iaload, []), (48, .iconst 0, []), (49, .invokevirtual 177, [140, 856, 858, 35]), (52, .pop, []), (53, .iinc 4 1, []), (56, .goto (-46), [7]), (59, .iconst 0, []), (60, .istore 4, []), (62, .iconst 0, []), (63, .istore 5, []), (65, .iload 5, []), (67, .aload_n 0, []), (68, .getfield 71, [4, 1, 678]), (71, .if_icmp .ge 86, [93]), (74, .iload_n 3, []), (75, .ifCond .eq 82, [93]), (78, .iload_n 1, []), (79, .iload 5, []), (81, .ishr, []), (82, .iconst 1, []), (83, .iand, []), (84, .iconst 1, []), (85, .if_icmp .ne 66, [91]), (88, .aload_n 0, []), (89, .getfield 7, [4, 0, 677]), (92, .bipush 6, []), (94, .iload 5, []), (96, .imul, []), (97, .iconst 3, []), (98, .iadd, []), (99, .iaload, []), (100, .aload_n 0, []), (101, .getfield 59, [4, 23, 700]), (104, .iload_n 2, []), (105, .iconst 2, []), (106, .iload 4, []), (108, .imul, []), (109, .iadd, []), (110, .iaload, []), (111, .if_icmp .ne 35, [88]), (114, .aload_n 0, []), (115, .getfield 7, [4, 0, 677]), (118, .bipush 6, []), (120, .iload 5, []), (122, .imul, []), (123, .iconst 4, []), (124, .iadd, []), (125, .iaload, []), (126, .aload_n 0, []), (127, .getfield 59, [4, 23, 700]), (130, .iload_n 2, []), (131, .iconst 2, []), (132, .iload 4, []), (134, .imul, []), (135, .iadd, []), (136, .iconst 1, []), (137, .iadd, []), (138, .iaload, []), (139, .if_icmp .ne 7, [88]), (142, .iconst 1, []), (143, .goto 4, [89]), (146, .iconst 0, []), (147, .istore_n 3, []), (148, .iinc 4 1, []), (151, .iinc 5 1, []), (154, .goto (-89), [37]), (157, .aload_n 0, []), (158, .aload_n 0, []), (159, .getfield 38, [4, 15, 692]), (162, .aload_n 0, []), (163, .getfield 94, [4, 4, 681]), (166, .invokevirtual 209, [156, 954, 956, 49]), (169, .iload_n 3, []), (170, .ireturn, [])]
def zk_172 : List zR := [(0, .aload_n 0, []), (1, .getfield 94, [4, 4, 681]), (4, .istore_n 3, []), (5, .aload_n 0, []), (6, .getfield 137, [4, 6, 683]), (9, .istore 4, []), (11, .iconst 0, []), (12, .istore 5, []), (14, .iload 5, []), (16, .bipush 12, []), (18, .if_icmp .ge 40, [31]), (21, .aload_n 0, []), (22, .getfield 68, [4, 26, 703]), (25, .iload 5, []), (27, .aload_n 0, []), (28, .getfield 13, [4, 2, 679]), (31, .iload 5, []), (33, .iaload, []), (34, .iastore, []), (35, .aload_n 0, []), (36, .getfield 68, [4, 26, 703]), (39, .bipush 12, []), (41, .iload 5, []), (43, .iadd, []), (44, .aload_n 0, []), (45, .getfield 16, [4, 3, 680]), (48, .iload 5, []), (50, .iaload, []), (51, .iastore, []), (52, .iinc 5 1, []), (55, .goto (-41), [8]), (58, .aload_n 0, []), (59, .aload_n 0, []), (60, .getfield 38, [4, 15, 692]), (63, .invokevirtual 205, [155, 946, 948, 47]), (66, .aload_n 0, []), (67, .iconst 0, []), (68, .putfield 137, [4, 6, 683]), (71, .iconst 0, []), (72, .istore 5, []), (74, .iconst 1, []), (75, .istore 6, []), (77, .iload 6, []), (79, .ifCond .eq 61, [72]), (82, .aload_n 0, []), (83, .iload_n 1, []), (84, .iload_n 2, []), (85, .invokevirtual 242, [171, 1014, 1016, 53]), (88, .ifCond .eq 43, [68]), (91, .iconst 0, []), (92, .istore 7, []), (94, .iload 7, []), (96, .aload_n 0, []), (97, .getfield 239, [4, 27, 704]), (100, .if_icmp .ge 28, [67]), (103, .iload 5, []), (105, .ifCond .ne 23, [67]), (108, .aload_n 0, []), (109, .getfield 65, [4, 25, 702]), (112, .iload 7, []), (114, .aload_n 0, []), (115, .getfield 62, [4, 24, 701]), (118, .iload 7, []), (120, .iaload, []), (121, .iastore, []), (122, .iinc 7 1, []), (125, .goto (-31), [51]), (128, .iinc 5 1, []), (131, .aload_n 0, []), (132, .invokevirtual 245, [170, 1018, 1020, 54]), (135, .istore 6, []), (137, .goto (-60), [42]), (140, .aload_n 0, []), (141, .iload_n 3, []), (142, .putfield 94, [4, 4, 681]), (145, .aload_n 0, []), (146, .iload 4, []), (148, .putfield 137, [4, 6, 683]), (151, .iconst 0, []), (152, .istore 7, []), (154, .iload 7, []), (156, .bipush 12, []), (158, .if_icmp .ge 40, [103]), (161, .aload_n 0, []), (162, .getfield 13, [4, 2, 679]), (165, .iload 7, []), (167, .aload_n 0, []), (168, .getfield 68, [4, 26, 703]), (171, .iload 7, []), (173, .iaload, []), (174, .iastore, []), (175, .aload_n 0, []), (176, .getfield 16, [4, 3, 680]), (179, .iload 7, []), (181, .aload_n 0, []), (182, .getfield 68, [4, 26, 703]), (185, .bipush 12, []), (187, .iload 7, []), (189, .iadd, []), (190, .iaload, []), (191, .iastore, []), (192, .iinc 7 1, []), (195, .goto (-41), [80]), (198, .iload 5, []), (200, .ireturn, [])]
def zk_173 : List zR := [(0, .iload_n 1, []), (1, .i2l, []), (2, .lconst 1, []), (3, .iconst 1, []), (4, .aload_n 0, []), (5, .getfield 71, [4, 1, 678]), (8, .ishl, []), (9, .iconst 1, []), (10, .isub, []), (11, .i2l, []), (12, .invokestatic 74, [112, 767, 768]), (15, .ifCond .eq 11, [16]), (18, .iload_n 2, []), (19, .iload_n 3, []), (20, .invokestatic 233, [164, 987, 988]), (23, .ifCond .ne 5, [18]), (26, .iconst (-1), []), (27, .ireturn, []), (28, .aload_n 0, []), (29, .iconst 0, []), (30, .putfield 239, [4, 27, 704]), (33, .iconst 0, []), (34, .istore 6, []), (36, .iload 6, []), (38, .aload_n 0, []), (39, .getfield 71, [4, 1, 678]), (42, .if_icmp .ge 50, [54]), (45, .iload_n 1, []), (46, .iload 6, []), (48, .ishr, []), (49, .iconst 1, []), (50, .iand, []), (51, .iconst 1, []), (52, .if_icmp .ne 34, [52]), (55, .aload_n 0, []), (56, .getfield 239, [4, 27, 704]), (59, .iconst 5, []), (60, .if_icmp .ne 5, [40]), (63, .iconst (-1), []), (64, .ireturn, []), (65, .aload_n 0, []), (66, .getfield 62, [4, 24, 701]), (69, .aload_n 0, []), (70, .getfield 239, [4, 27, 704]), (73, .iload 6, []), (75, .iastore, []), (76, .aload_n 0, []), (77, .dup, []), (78, .getfield 239, [4, 27, 704]), (81, .iconst 1, []), (82, .iadd, []), (83, .putfield 239, [4, 27, 704]), (86, .iinc 6 1, []), (89, .goto (-53), [23]), (92, .aload_n 0, []), (93, .getfield 239, [4, 27, 704]), (96, .iconst 2, []), (97, .if_icmp .lt 22, [68]), (100, .iload 5, []), (102, .i2l, []), (103, .ldc2_w 103, [1, 1, 800]), (106, .aload_n 0, []), (107, .getfield 239, [4, 27, 704]), (110, .iconst 1, []), (111, .isub, []), (112, .i2l, []), (113, .invokestatic 74, [112, 767, 768]), (116, .ifCond .ne 5, [70]), (119, .iconst (-1), []), (120, .ireturn, []), (121, .aload_n 0, []), (122, .iload_n 2, []), (123, .iload_n 3, []), (124, .iload 4, []), (126, .iconst 2, []), (127, .aload_n 0, []), (128, .getfield 239, [4, 27, 704]), (131, .imul, []), (132, .invokevirtual 236, [167, 998, 1000, 51]), (135, .istore 6, []), (137, .iload 6, []), (139, .ifCond .ge 6, [84]), (142, .iload 6, []), (144, .ireturn, []), (145, .aload_n 0, []), (146, .iload_n 1, []), (147, .bipush 24, []), (149, .iload_n 2, []), (150, .imul, []), (151, .iload 4, []), (153, .iadd, []), (154, .invokevirtual 248, [172, 1010, 1012, 52]), (157, .istore 7, []), (159, .iload 7, []), (161, .ifCond .ne 8, [97]), (164, .bipush (-4), []), (166, .goto 20, [105]), (169, .iload 5, []), (171, .ifCond .ge 8, [101]), (174, .iload 7, []), (176, .goto 10, [105]), (179, .aload_n 0, []), (180, .getfield 65, [4, 25, 702]), (183, .iload 5, []), (185, .iaload, []), (186, .ireturn, [])]
def zk_174 : List zR := [(0, .iload_n 1, []), (1, .iload_n 2, []), (2, .invokestatic 233, [164, 987, 988]), (5, .ifCond .ne 5, [6]), (8, .iconst (-1), []), (9, .ireturn, []), (10, .aload_n 0, []), (11, .iload_n 1, []), (12, .iload_n 2, []), (13, .iload_n 3, []), (14, .iconst 2, []), (15, .aload_n 0, []), (16, .getfield 94, [4, 4, 681]), (19, .imul, []), (20, .invokevirtual 236, [167, 998, 1000, 51]), (23, .istore 4, []), (25, .iload 4, []), (27, .ifCond .ge 6, [20]), (30, .iload 4, []), (32, .ireturn, []), (33, .iconst 0, []), (34, .istore 5, []), (36, .iload 5, []), (38, .aload_n 0, []), (39, .getfield 94, [4, 4, 681]), (42, .if_icmp .ge 92, [85]), (45, .aload_n 0, []), (46, .getfield 13, [4, 2, 679]), (49, .iload 5, []), (51, .iaload, []), (52, .istore 6, []), (54, .aload_n 0, []), (55, .getfield 59, [4, 23, 700]), (58, .bipush 24, []), (60, .iload_n 1, []), (61, .imul, []), (62, .iload_n 3, []), (63, .iadd, []), (64, .iconst 2, []), (65, .iload 5, []), (67, .imul, []), (68, .iadd, []), (69, .aload_n 0, []), (70, .getfield 7, [4, 0, 677]), (73, .bipush 6, []), (75, .iload 6, []), (77, .imul, []), (78, .iconst 3, []), (79, .iadd, []), (80, .aload_n 0, []), (81, .getfield 16, [4, 3, 680]), (84, .iload 5, []), (86, .iaload, []), (87, .iadd, []), (88, .iaload, []), (89, .iastore, []), (90, .aload_n 0, []), (91, .getfield 59, [4, 23, 700]), (94, .bipush 24, []), (96, .iload_n 1, []), (97, .imul, []), (98, .iload_n 3, []), (99, .iadd, []), (100, .iconst 2, []), (101, .iload 5, []), (103, .imul, []), (104, .iadd, []), (105, .iconst 1, []), (106, .iadd, []), (107, .aload_n 0, []), (108, .getfield 7, [4, 0, 677]), (111, .bipush 6, []), (113, .iload 6, []), (115, .imul, []), (116, .iconst 4, []), (117, .iadd, []), (118, .aload_n 0, []), (119, .getfield 16, [4, 3, 680]), (122, .iload 5, []), (124, .iaload, []), (125, .isub, []), (126, .iaload, []), (127, .iastore, []), (128, .iinc 5 1, []), (131, .goto (-95), [22]), (134, .iconst 2, []), (135, .aload_n 0, []), (136, .getfield 94, [4, 4, 681]), (139, .imul, []), (140, .ireturn, [])]
def zk_175 : List zR := [(0, .iload_n 0, []), (1, .iload_n 0, []), (2, .iconst 1, []), (3, .iushr, []), (4, .ldc_w 265, [1431655765, 0, 604]), (7, .iand, []), (8, .isub, []), (9, .istore_n 0, []), (10, .iload_n 0, []), (11, .ldc_w 266, [858993459, 0, 605]), (14, .iand, []), (15, .iload_n 0, []), (16, .iconst 2, []), (17, .iushr, []), (18, .ldc_w 266, [858993459, 0, 605]), (21, .iand, []), (22, .iadd, []), (23, .istore_n 0, []), (24, .iload_n 0, []), (25, .iload_n 0, []), (26, .iconst 4, []), (27, .iushr, []), (28, .iadd, []), (29, .ldc_w 267, [252645135, 0, 606]), (32, .iand, []), (33, .istore_n 0, []), (34, .iload_n 0, []), (35, .iload_n 0, []), (36, .bipush 8, []), (38, .iushr, []), (39, .iadd, []), (40, .istore_n 0, []), (41, .iload_n 0, []), (42, .iload_n 0, []), (43, .bipush 16, []), (45, .iushr, []), (46, .iadd, []), (47, .istore_n 0, []), (48, .iload_n 0, []), (49, .bipush 63, []), (51, .iand, []), (52, .ireturn, [])]
def zk_176 : List zR := [(0, .iload_n 0, []), (1, .iload_n 1, []), (2, .irem, []), (3, .istore_n 2, []), (4, .iload_n 0, []), (5, .iload_n 1, []), (6, .ixor, []), (7, .ifCond .ge 11, [14]), (10, .iload_n 2, []), (11, .ifCond .eq 7, [14]), (14, .iload_n 2, []), (15, .iload_n 1, []), (16, .iadd, []), (17, .ireturn, []), (18, .iload_n 2, []), (19, .ireturn, [])]
def zk_177 : List zR := [(0, .iload_n 0, []), (1, .ifCond .ge 8, [5]), (4, .iload_n 0, []), (5, .ineg, []), (6, .goto 4, [6]), (9, .iload_n 0, []), (10, .ireturn, [])]
def zk_178 : List zR := [(0, .iload_n 0, []), (1, .iload_n 1, []), (2, .if_icmp .lt 7, [5]), (5, .iload_n 0, []), (6, .goto 4, [6]), (9, .iload_n 1, []), (10, .ireturn, [])]
def zk_179 : List zR := [(0, .iload_n 0, []), (1, .iload_n 1, []), (2, .if_icmp .gt 7, [5]), (5, .iload_n 0, []), (6, .goto 4, [6]), (9, .iload_n 1, []), (10, .ireturn, [])]
def zPl : List (List zR) := [zk_0, zk_1, zk_2, zk_3, zk_4, zk_5, zk_6, zk_7, zk_8, zk_9, zk_10, zk_11, zk_12, zk_13, zk_14, zk_15, zk_16, zk_17, zk_18, zk_19, zk_20, zk_21, zk_22, zk_23, zk_24, zk_25, zk_26, zk_27, zk_28, zk_29, zk_30, zk_31, zk_32, zk_33, zk_34, zk_35, zk_36, zk_37, zk_38, zk_39, zk_40, zk_41, zk_42, zk_43, zk_44, zk_45, zk_46, zk_47, zk_48, zk_49, zk_50, zk_51, zk_52, zk_53, zk_54, zk_55, zk_56, zk_57, zk_58, zk_59, zk_60, zk_61, zk_62, zk_63, zk_64, zk_65, zk_66, zk_67, zk_68, zk_69, zk_70, zk_71, zk_72, zk_73, zk_74, zk_75, zk_76, zk_77, zk_78, zk_79, zk_80, zk_81, zk_82, zk_83, zk_84, zk_85, zk_86, zk_87, zk_88, zk_89, zk_90, zk_91, zk_92, zk_93, zk_94, zk_95, zk_96, zk_97, zk_98, zk_99, zk_100, zk_101, zk_102, zk_103, zk_104, zk_105, zk_106, zk_107, zk_108, zk_109, zk_110, zk_111, zk_112, zk_113, zk_114, zk_115, zk_116, zk_117, zk_118, zk_119, zk_120, zk_121, zk_122, zk_123, zk_124, zk_125, zk_126, zk_127, zk_128, zk_129, zk_130, zk_131, zk_132, zk_133, zk_134, zk_135, zk_136, zk_137, zk_138, zk_139, zk_140, zk_141, zk_142, zk_143, zk_144, zk_145, zk_146, zk_147, zk_148, zk_149, zk_150, zk_151, zk_152, zk_153, zk_154, zk_155, zk_156, zk_157, zk_158, zk_159, zk_160, zk_161, zk_162, zk_163, zk_164, zk_165, zk_166, zk_167, zk_168, zk_169, zk_170, zk_171, zk_172, zk_173, zk_174, zk_175, zk_176, zk_177, zk_178, zk_179]
abbrev zMeT := MethodName × ByteArray × Nat × Option FieldType × Nat × Nat × Nat × Nat
/-- name, bytes, locals, kind of answer, parameters, class (99: a static one), place of its code word, of its class's being initialized -/
def zm_0 : zMeT := (yX0_isNothing, cX0_isNothing, 1, (some .boolean), 0, 0, 653, 59)
def zm_1 : zMeT := (yX0_holdNew, cX0_holdNew, 4, none, 2, 0, 644, 59)
def zm_2 : zMeT := (yX0_holdNothing, cX0_holdNothing, 1, (some .int), 0, 0, 657, 59)
def zm_3 : zMeT := (yX0_refusalOf, cX0_refusalOf, 4, (some .int), 3, 0, 587, 59)
def zm_4 : zMeT := (yX0_itemAt, cX0_itemAt, 2, (some .int), 1, 0, 591, 59)
def zm_5 : zMeT := (yX0_setItem, cX0_setItem, 3, none, 2, 0, 665, 59)
def zm_6 : zMeT := (yX1_copyFrom, cX1_copyFrom, 2, none, 1, 1, 288, 57)
def zm_7 : zMeT := (yX1_clear, cX1_clear, 1, none, 0, 1, 301, 57)
def zm_8 : zMeT := (yX1_isFull, cX1_isFull, 1, (some .boolean), 0, 1, 193, 57)
def zm_9 : zMeT := (yX1_addStone, cX1_addStone, 5, (some .int), 3, 1, 197, 57)
def zm_10 : zMeT := (yX1_setNotLaid, cX1_setNotLaid, 2, none, 1, 1, 208, 57)
def zm_11 : zMeT := (yX1_stoneCount, cX1_stoneCount, 1, (some .int), 0, 1, 338, 57)
def zm_12 : zMeT := (yX1_hasStone, cX1_hasStone, 2, (some .boolean), 1, 1, 216, 57)
def zm_13 : zMeT := (yX1_hasSet, cX1_hasSet, 2, (some .boolean), 1, 1, 610, 57)
def zm_14 : zMeT := (yX1_kindOf, cX1_kindOf, 2, (some .int), 1, 1, 239, 57)
def zm_15 : zMeT := (yX1_teethOf, cX1_teethOf, 3, (some .int), 2, 1, 223, 57)
def zm_16 : zMeT := (yX1_markOf, cX1_markOf, 3, (some .int), 2, 1, 230, 57)
def zm_17 : zMeT := (yX1_setMark, cX1_setMark, 4, none, 3, 1, 204, 57)
def zm_18 : zMeT := (yX1_handOf, cX1_handOf, 2, (some .int), 1, 1, 251, 57)
def zm_19 : zMeT := (yX1_setHand, cX1_setHand, 3, none, 2, 1, 264, 57)
def zm_20 : zMeT := (yX1_handSize, cX1_handSize, 4, (some .int), 1, 1, 355, 57)
def zm_21 : zMeT := (yX1_scoreOf, cX1_scoreOf, 2, (some .int), 1, 1, 360, 57)
def zm_22 : zMeT := (yX1_placeOf, cX1_placeOf, 2, (some .int), 1, 1, 243, 57)
def zm_23 : zMeT := (yX1_isLaid, cX1_isLaid, 2, (some .boolean), 1, 1, 259, 57)
def zm_24 : zMeT := (yX1_frontOf, cX1_frontOf, 2, (some .int), 1, 1, 247, 57)
def zm_25 : zMeT := (yX1_backOf, cX1_backOf, 2, (some .int), 1, 1, 440, 57)
def zm_26 : zMeT := (yX1_trainLength, cX1_trainLength, 1, (some .int), 0, 1, 351, 57)
def zm_27 : zMeT := (yX1_stoneInTrain, cX1_stoneInTrain, 2, (some .int), 1, 1, 368, 57)
def zm_28 : zMeT := (yX1_isRing, cX1_isRing, 1, (some .boolean), 0, 1, 373, 57)
def zm_29 : zMeT := (yX1_setRing, cX1_setRing, 2, none, 1, 1, 470, 57)
def zm_30 : zMeT := (yX1_drawIs, cX1_drawIs, 1, (some .int), 0, 1, 560, 57)
def zm_31 : zMeT := (yX1_setDraw, cX1_setDraw, 2, none, 1, 1, 564, 57)
def zm_32 : zMeT := (yX1_lastTeeth, cX1_lastTeeth, 2, (some .int), 0, 1, 386, 57)
def zm_33 : zMeT := (yX1_areNear, cX1_areNear, 2, (some .boolean), 2, 99, 389, 57)
def zm_34 : zMeT := (yX1_fits, cX1_fits, 3, (some .boolean), 2, 1, 381, 57)
def zm_35 : zMeT := (yX1_mayLay, cX1_mayLay, 4, (some .boolean), 2, 1, 517, 57)
def zm_36 : zMeT := (yX1_canBeRing, cX1_canBeRing, 2, (some .boolean), 0, 1, 466, 57)
def zm_37 : zMeT := (yX1_layDown, cX1_layDown, 6, (some .int), 2, 1, 401, 57)
def zm_38 : zMeT := (yX1_scoreNow, cX1_scoreNow, 3, (some .int), 0, 1, 444, 57)
def zm_39 : zMeT := (yX1_upMarks, cX1_upMarks, 4, (some .int), 0, 1, 364, 57)
def zm_40 : zMeT := (yX1_liftLast, cX1_liftLast, 3, none, 1, 1, 458, 57)
def zm_41 : zMeT := (yX1_backWay, cX1_backWay, 3, (some .int), 2, 1, 413, 57)
def zm_42 : zMeT := (yX1_backWayAt, cX1_backWayAt, 4, (some .int), 1, 1, 409, 57)
def zm_43 : zMeT := (yX1_lastBackWay, cX1_lastBackWay, 1, (some .int), 0, 1, 405, 57)
def zm_44 : zMeT := (yX1_lockOf, cX1_lockOf, 7, (some .int), 1, 1, 417, 57)
def zm_45 : zMeT := (yX1_hasPawl, cX1_hasPawl, 3, (some .boolean), 1, 1, 421, 57)
def zm_46 : zMeT := (yX1_turnTrain, cX1_turnTrain, 5, none, 1, 1, 425, 57)
def zm_47 : zMeT := (yX1_turnWheel, cX1_turnWheel, 4, none, 3, 1, 430, 57)
def zm_48 : zMeT := (yX1_remainder, cX1_remainder, 2, (some .int), 2, 99, 433, 57)
def zm_49 : zMeT := (yX1_teethAround, cX1_teethAround, 4, (some .int), 0, 1, 493, 57)
def zm_50 : zMeT := (yX1_commonMultiple, cX1_commonMultiple, 4, (some .int), 2, 99, 496, 57)
def zm_51 : zMeT := (yX1_teethUntilUp, cX1_teethUntilUp, 8, (some .int), 0, 1, 504, 57)
def zm_52 : zMeT := (yX1_firstUp, cX1_firstUp, 10, (some .int), 5, 1, 508, 57)
def zm_53 : zMeT := (yX1_teethUntilPoint, cX1_teethUntilPoint, 5, (some .int), 2, 1, 535, 57)
def zm_54 : zMeT := (yX1_layDrawn, cX1_layDrawn, 5, (some .boolean), 1, 1, 543, 57)
def zm_55 : zMeT := (yX1_countLays, cX1_countLays, 4, (some .int), 1, 1, 547, 57)
def zm_56 : zMeT := (yX2_length, cX2_length, 1, (some .int), 0, 2, 275, 58)
def zm_57 : zMeT := (yX2_addByte, cX2_addByte, 2, none, 1, 2, 279, 58)
def zm_58 : zMeT := (yX2_empty, cX2_empty, 1, none, 0, 2, 342, 58)
def zm_59 : zMeT := (yX2_readTo, cX2_readTo, 4, (some .int), 1, 2, 305, 58)
def zm_60 : zMeT := (yX2_stepOn, cX2_stepOn, 1, none, 0, 2, 309, 58)
def zm_61 : zMeT := (yX2_readStone, cX2_readStone, 5, (some .boolean), 1, 2, 314, 58)
def zm_62 : zMeT := (yX2_readMark, cX2_readMark, 5, (some .boolean), 3, 2, 332, 58)
def zm_63 : zMeT := (yX2_readKind, cX2_readKind, 1, (some .int), 0, 2, 323, 58)
def zm_64 : zMeT := (yX2_readDigit, cX2_readDigit, 4, (some .int), 2, 2, 318, 58)
def zm_65 : zMeT := (yX2_readSign, cX2_readSign, 2, (some .boolean), 1, 2, 327, 58)
def zm_66 : zMeT := (yX3_stone, cX3_stone, 4, (some .int), 3, 3, 183, 56)
def zm_67 : zMeT := (yX3_mark, cX3_mark, 5, (some .int), 3, 3, 212, 56)
def zm_68 : zMeT := (yX3_told, cX3_told, 3, (some .int), 2, 3, 235, 56)
def zm_69 : zMeT := (yX3_deal, cX3_deal, 4, (some .int), 2, 3, 255, 56)
def zm_70 : zMeT := (yX3_type, cX3_type, 5, (some .int), 2, 3, 268, 56)
def zm_71 : zMeT := (yX3_stones, cX3_stones, 2, (some .int), 0, 3, 284, 56)
def zm_72 : zMeT := (yX3_count, cX3_count, 2, (some .int), 1, 3, 346, 56)
def zm_73 : zMeT := (yX3_may, cX3_may, 3, (some .int), 2, 3, 377, 56)
def zm_74 : zMeT := (yX3_lay, cX3_lay, 4, (some .int), 2, 3, 396, 56)
def zm_75 : zMeT := (yX3_take, cX3_take, 2, (some .int), 1, 3, 454, 56)
def zm_76 : zMeT := (yX3_shut, cX3_shut, 3, (some .int), 1, 3, 462, 56)
def zm_77 : zMeT := (yX3_locked, cX3_locked, 1, (some .int), 0, 3, 474, 56)
def zm_78 : zMeT := (yX3_crank, cX3_crank, 2, (some .int), 1, 3, 480, 56)
def zm_79 : zMeT := (yX3_around, cX3_around, 2, (some .int), 0, 3, 485, 56)
def zm_80 : zMeT := (yX3_up, cX3_up, 2, (some .int), 0, 3, 500, 56)
def zm_81 : zMeT := (yX3_best, cX3_best, 7, (some .int), 2, 3, 512, 56)
def zm_82 : zMeT := (yX3_point, cX3_point, 4, (some .int), 2, 3, 530, 56)
def zm_83 : zMeT := (yX3_match, cX3_match, 4, (some .int), 1, 3, 539, 56)
def zm_84 : zMeT := (yX3_seed, cX3_seed, 3, (some .int), 1, 3, 556, 56)
def zm_85 : zMeT := (yX3_image, cX3_image, 1, (some .int), 0, 3, 568, 56)
def zm_86 : zMeT := (yX3_restore, cX3_restore, 1, (some .int), 0, 3, 572, 56)
def zm_87 : zMeT := (yX3_judged, cX3_judged, 8, (some .int), 4, 3, 576, 56)
def zm_88 : zMeT := (yX3_orders, cX3_orders, 10, (some .int), 5, 3, 600, 56)
def zm_89 : zMeT := (yX3_sheet, cX3_sheet, 5, (some .int), 3, 3, 640, 56)
def zm_90 : zMeT := (yX3_drop, cX3_drop, 3, (some .int), 1, 3, 649, 56)
def zm_91 : zMeT := (yX3_item, cX3_item, 7, (some .int), 4, 3, 661, 56)
def zm_92 : zMeT := (yX3_film, cX3_film, 9, (some .int), 3, 3, 669, 56)
def zm_93 : zMeT := (yX3_isWithin, cX3_isWithin, 3, (some .boolean), 3, 99, 186, 56)
def zm_94 : zMeT := (yX3_isTeeth, cX3_isTeeth, 1, (some .boolean), 1, 99, 189, 56)
def zm_95 : zMeT := (yX3_isWheel, cX3_isWheel, 1, (some .boolean), 1, 99, 219, 56)
def zm_96 : zMeT := (yX3_isHand, cX3_isHand, 1, (some .boolean), 1, 99, 449, 56)
def zm_97 : zMeT := (yX3_isLane, cX3_isLane, 1, (some .boolean), 1, 99, 583, 56)
def zm_98 : zMeT := (yX3_lowByte, cX3_lowByte, 3, (some .int), 2, 99, 271, 56)
def zm_99 : zMeT := (yX3_sheetAt, cX3_sheetAt, 2, (some (.object "ToothStones$Sheet")), 1, 3, 580, 56)
def zm_100 : zMeT := (yX3_crankRefusal, cX3_crankRefusal, 1, (some .int), 0, 3, 489, 56)
def zm_101 : zMeT := (yX3_worthOf, cX3_worthOf, 6, (some .int), 2, 3, 523, 56)
def zm_102 : zMeT := (yX3_firstThatMayNot, cX3_firstThatMayNot, 7, (some .int), 3, 3, 596, 56)
def zm_103 : zMeT := (yX3_countOrders, cX3_countOrders, 8, (some .int), 4, 3, 614, 56)
def zm_104 : zMeT := (yX3_startOrder, cX3_startOrder, 4, none, 1, 3, 618, 56)
def zm_105 : zMeT := (yX3_nextOrder, cX3_nextOrder, 6, (some .boolean), 1, 3, 632, 56)
def zm_106 : zMeT := (yX3_swapInOrder, cX3_swapInOrder, 4, none, 2, 3, 636, 56)
def zm_107 : zMeT := (yX3_bringsMarks, cX3_bringsMarks, 7, (some .boolean), 4, 3, 626, 56)
def zm_108 : zMeT := (yX3_isIn, cX3_isIn, 2, (some .boolean), 2, 99, 621, 56)
def zm_109 : zMeT := (yX3_at, cX3_at, 2, (some .int), 2, 99, 226, 56)
def zm_110 : zMeT := (yX3_put, cX3_put, 3, none, 3, 99, 200, 56)
def zm_111 : zMeT := (yX3_copyRow, cX3_copyRow, 2, none, 2, 99, 291, 56)
def zm_112 : zMeT := (yX4_in, cX4_in, 6, (some .boolean), 3, 99, 769, 60)
def zm_113 : zMeT := (yX4_isStone, cX4_isStone, 2, (some .boolean), 1, 4, 782, 60)
def zm_114 : zMeT := (yX4_teeth, cX4_teeth, 3, (some .int), 2, 4, 786, 60)
def zm_115 : zMeT := (yX4_add, cX4_add, 7, none, 5, 4, 774, 60)
def zm_116 : zMeT := (yX4_stone, cX4_stone, 4, (some .int), 3, 4, 765, 60)
def zm_117 : zMeT := (yX4_mark, cX4_mark, 5, (some .int), 3, 4, 778, 60)
def zm_118 : zMeT := (yX4_placeOf, cX4_placeOf, 4, (some .int), 1, 4, 795, 60)
def zm_119 : zMeT := (yX4_told, cX4_told, 4, (some .int), 2, 4, 790, 60)
def zm_120 : zMeT := (yX4_deal, cX4_deal, 4, (some .int), 2, 4, 799, 60)
def zm_121 : zMeT := (yX4_type, cX4_type, 5, (some .int), 2, 4, 804, 60)
def zm_122 : zMeT := (yX4_nextByte, cX4_nextByte, 1, (some .int), 0, 4, 828, 60)
def zm_123 : zMeT := (yX4_readDigit, cX4_readDigit, 5, (some .boolean), 3, 4, 824, 60)
def zm_124 : zMeT := (yX4_readStone, cX4_readStone, 3, (some .boolean), 1, 4, 820, 60)
def zm_125 : zMeT := (yX4_readStones, cX4_readStones, 3, (some .boolean), 0, 4, 816, 60)
def zm_126 : zMeT := (yX4_stones, cX4_stones, 3, (some .int), 0, 4, 812, 60)
def zm_127 : zMeT := (yX4_isPawled, cX4_isPawled, 2, (some .boolean), 1, 4, 883, 60)
def zm_128 : zMeT := (yX4_findWays, cX4_findWays, 4, none, 1, 4, 867, 60)
def zm_129 : zMeT := (yX4_lockedAt, cX4_lockedAt, 3, (some .int), 0, 4, 879, 60)
def zm_130 : zMeT := (yX4_isOdd, cX4_isOdd, 1, (some .boolean), 0, 4, 875, 60)
def zm_131 : zMeT := (yX4_isLocked, cX4_isLocked, 1, (some .boolean), 0, 4, 871, 60)
def zm_132 : zMeT := (yX4_wayForBack, cX4_wayForBack, 1, (some .int), 0, 4, 863, 60)
def zm_133 : zMeT := (yX4_round, cX4_round, 4, (some .int), 3, 99, 890, 60)
def zm_134 : zMeT := (yX4_turnAll, cX4_turnAll, 5, none, 1, 4, 887, 60)
def zm_135 : zMeT := (yX4_upMarks, cX4_upMarks, 3, (some .int), 0, 4, 836, 60)
def zm_136 : zMeT := (yX4_count, cX4_count, 5, (some .int), 1, 4, 832, 60)
def zm_137 : zMeT := (yX4_mesh, cX4_mesh, 2, (some .boolean), 2, 99, 847, 60)
def zm_138 : zMeT := (yX4_mayLay, cX4_mayLay, 3, (some .boolean), 2, 4, 844, 60)
def zm_139 : zMeT := (yX4_may, cX4_may, 3, (some .int), 2, 4, 840, 60)
def zm_140 : zMeT := (yX4_put, cX4_put, 5, (some .int), 2, 4, 859, 60)
def zm_141 : zMeT := (yX4_layOne, cX4_layOne, 5, (some .int), 2, 4, 855, 60)
def zm_142 : zMeT := (yX4_lay, cX4_lay, 3, (some .int), 2, 4, 851, 60)
def zm_143 : zMeT := (yX4_take, cX4_take, 2, (some .int), 1, 4, 894, 60)
def zm_144 : zMeT := (yX4_shut, cX4_shut, 4, (some .int), 1, 4, 899, 60)
def zm_145 : zMeT := (yX4_locked, cX4_locked, 2, (some .int), 0, 4, 903, 60)
def zm_146 : zMeT := (yX4_crank, cX4_crank, 2, (some .int), 1, 4, 907, 60)
def zm_147 : zMeT := (yX4_isForwardLocked, cX4_isForwardLocked, 1, (some .boolean), 0, 4, 917, 60)
def zm_148 : zMeT := (yX4_common, cX4_common, 5, (some .int), 2, 99, 924, 60)
def zm_149 : zMeT := (yX4_roundOf, cX4_roundOf, 4, (some .int), 0, 4, 921, 60)
def zm_150 : zMeT := (yX4_around, cX4_around, 1, (some .int), 0, 4, 913, 60)
def zm_151 : zMeT := (yX4_teethTo, cX4_teethTo, 5, (some .int), 4, 4, 936, 60)
def zm_152 : zMeT := (yX4_isUpBehind, cX4_isUpBehind, 6, (some .boolean), 1, 4, 932, 60)
def zm_153 : zMeT := (yX4_up, cX4_up, 3, (some .int), 0, 4, 928, 60)
def zm_154 : zMeT := (yX4_point, cX4_point, 5, (some .int), 2, 4, 940, 60)
def zm_155 : zMeT := (yX4_keepIn, cX4_keepIn, 3, none, 1, 4, 949, 60)
def zm_156 : zMeT := (yX4_bringBack, cX4_bringBack, 4, none, 2, 4, 957, 60)
def zm_157 : zMeT := (yX4_greatestOf, cX4_greatestOf, 6, (some .int), 1, 4, 953, 60)
def zm_158 : zMeT := (yX4_best, cX4_best, 8, (some .int), 2, 4, 944, 60)
def zm_159 : zMeT := (yX4_laysOf, cX4_laysOf, 5, (some .int), 2, 4, 966, 60)
def zm_160 : zMeT := (yX4_match, cX4_match, 6, (some .int), 1, 4, 961, 60)
def zm_161 : zMeT := (yX4_seed, cX4_seed, 3, (some .int), 1, 4, 974, 60)
def zm_162 : zMeT := (yX4_image, cX4_image, 2, (some .int), 0, 4, 978, 60)
def zm_163 : zMeT := (yX4_restore, cX4_restore, 2, (some .int), 0, 4, 982, 60)
def zm_164 : zMeT := (yX4_isSheet, cX4_isSheet, 2, (some .boolean), 2, 99, 989, 60)
def zm_165 : zMeT := (yX4_sheet, cX4_sheet, 5, (some .int), 3, 4, 986, 60)
def zm_166 : zMeT := (yX4_drop, cX4_drop, 2, (some .int), 1, 4, 993, 60)
def zm_167 : zMeT := (yX4_lacksRow, cX4_lacksRow, 5, (some .int), 4, 4, 1001, 60)
def zm_168 : zMeT := (yX4_item, cX4_item, 6, (some .int), 4, 4, 997, 60)
def zm_169 : zMeT := (yX4_judged, cX4_judged, 12, (some .int), 4, 4, 1005, 60)
def zm_170 : zMeT := (yX4_nextOrder, cX4_nextOrder, 6, (some .boolean), 0, 4, 1021, 60)
def zm_171 : zMeT := (yX4_brings, cX4_brings, 6, (some .boolean), 2, 4, 1017, 60)
def zm_172 : zMeT := (yX4_countOrders, cX4_countOrders, 8, (some .int), 2, 4, 1013, 60)
def zm_173 : zMeT := (yX4_orders, cX4_orders, 8, (some .int), 5, 4, 1009, 60)
def zm_174 : zMeT := (yX4_film, cX4_film, 7, (some .int), 3, 4, 1025, 60)
def zm_175 : zMeT := (yJ6_bitCount_0f7a4, cJ6_bitCount_0f7a4, 1, (some .int), 1, 99, 603, 63)
def zm_176 : zMeT := (yJ9_floorMod_7cf53, cJ9_floorMod_7cf53, 3, (some .int), 2, 99, 436, 61)
def zm_177 : zMeT := (yJ9_abs_0f7a4, cJ9_abs_0f7a4, 1, (some .int), 1, 99, 392, 61)
def zm_178 : zMeT := (yJ9_max_7cf53, cJ9_max_7cf53, 2, (some .int), 2, 99, 526, 61)
def zm_179 : zMeT := (yJ9_min_7cf53, cJ9_min_7cf53, 2, (some .int), 2, 99, 294, 61)
def zMe : List zMeT := [zm_0, zm_1, zm_2, zm_3, zm_4, zm_5, zm_6, zm_7, zm_8, zm_9, zm_10, zm_11, zm_12, zm_13, zm_14, zm_15, zm_16, zm_17, zm_18, zm_19, zm_20, zm_21, zm_22, zm_23, zm_24, zm_25, zm_26, zm_27, zm_28, zm_29, zm_30, zm_31, zm_32, zm_33, zm_34, zm_35, zm_36, zm_37, zm_38, zm_39, zm_40, zm_41, zm_42, zm_43, zm_44, zm_45, zm_46, zm_47, zm_48, zm_49, zm_50, zm_51, zm_52, zm_53, zm_54, zm_55, zm_56, zm_57, zm_58, zm_59, zm_60, zm_61, zm_62, zm_63, zm_64, zm_65, zm_66, zm_67, zm_68, zm_69, zm_70, zm_71, zm_72, zm_73, zm_74, zm_75, zm_76, zm_77, zm_78, zm_79, zm_80, zm_81, zm_82, zm_83, zm_84, zm_85, zm_86, zm_87, zm_88, zm_89, zm_90, zm_91, zm_92, zm_93, zm_94, zm_95, zm_96, zm_97, zm_98, zm_99, zm_100, zm_101, zm_102, zm_103, zm_104, zm_105, zm_106, zm_107, zm_108, zm_109, zm_110, zm_111, zm_112, zm_113, zm_114, zm_115, zm_116, zm_117, zm_118, zm_119, zm_120, zm_121, zm_122, zm_123, zm_124, zm_125, zm_126, zm_127, zm_128, zm_129, zm_130, zm_131, zm_132, zm_133, zm_134, zm_135, zm_136, zm_137, zm_138, zm_139, zm_140, zm_141, zm_142, zm_143, zm_144, zm_145, zm_146, zm_147, zm_148, zm_149, zm_150, zm_151, zm_152, zm_153, zm_154, zm_155, zm_156, zm_157, zm_158, zm_159, zm_160, zm_161, zm_162, zm_163, zm_164, zm_165, zm_166, zm_167, zm_168, zm_169, zm_170, zm_171, zm_172, zm_173, zm_174, zm_175, zm_176, zm_177, zm_178, zm_179]
def zme (m : Nat) : zMeT := zMe.getD m zm_0
/-- the cells: the class's (0 .. 49) and the reference's (50 .. 69) -/
def zLy : List zE := [.inr (.inl (3, [some 1, some 10, none, some 19, some 28, some 37, some 39, some 48, some 49])), .inr (.inl (1, [none, some 2, some 3, some 4, some 5, some 6, some 7, none, some 8, none, some 9, none])), .inl 12, .inl 24, .inl 24, .inl 12, .inl 12, .inl 12, .inl 12, .inl 2, .inr (.inl (1, [none, some 11, some 12, some 13, some 14, some 15, some 16, none, some 17, none, some 18, none])), .inl 12, .inl 24, .inl 24, .inl 12, .inl 12, .inl 12, .inl 12, .inl 2, .inr (.inl (1, [none, some 20, some 21, some 22, some 23, some 24, some 25, none, some 26, none, some 27, none])), .inl 12, .inl 24, .inl 24, .inl 12, .inl 12, .inl 12, .inl 12, .inl 2, .inr (.inl (1, [none, some 29, some 30, some 31, some 32, some 33, some 34, none, some 35, none, some 36, none])), .inl 12, .inl 24, .inl 24, .inl 12, .inl 12, .inl 12, .inl 12, .inl 2, .inr (.inl (2, [some 38, none, none])), .inl 80, .inr (.inr [40, 42, 44, 46]), .inr (.inl (0, [some 41, none, none, none])), .inl 24, .inr (.inl (0, [some 43, none, none, none])), .inl 24, .inr (.inl (0, [some 45, none, none, none])), .inl 24, .inr (.inl (0, [some 47, none, none, none])), .inl 24, .inl 5, .inl 5, .inr (.inl (4, [some 51, none, some 52, some 53, none, some 54, none, none, some 55, none, none, none, some 56, some 57, some 58, some 59, some 60, none, some 61, some 62, some 63, some 64, some 65, some 66, some 67, some 68, some 69, none])), .inl 72, .inl 12, .inl 12, .inl 2, .inl 80, .inl 40, .inl 12, .inl 12, .inl 72, .inl 72, .inl 72, .inl 24, .inl 6, .inl 4, .inl 4, .inl 96, .inl 5, .inl 5, .inl 24]
end
section
/-! the small machine: what an instruction asks and does over cells of ints; the least predicate closed under it -/
def zP (m : Nat) : List zR := zPl.getD m []
def zpc (m i : Nat) : Nat := match (zP m)[i]? with
  | some q => q.1
  | none => 0
def zy (m : Nat) : MethodName := (zme m).1
def zb (m : Nat) : ByteArray := (zme m).2.1
def zl (m : Nat) : Nat := (zme m).2.2.1
def zr (m : Nat) : Option FieldType := (zme m).2.2.2.1
def znp (m : Nat) : Nat := (zme m).2.2.2.2.1
def zci (m : Nat) : Nat := (zme m).2.2.2.2.2.1
def zo (m : Nat) : String := (zy m).cls
abbrev zT := Nat → Nat → Nat → List (Nat × Value) → List Value → zM → (Option Value → zM → Prop) → Prop
def zL (L : List Nat) (j : Nat) : Nat := L.getD j 0
def zg : List (Nat × Value) → Nat → Option Value
  | [], _ => none
  | q :: r, k => bif Nat.beq q.1 k then some q.2 else zg r k
def zs (lv : List (Nat × Value)) (k : Nat) (v : Value) : List (Nat × Value) := (k, v) :: lv.filter (fun q => !(q.1 == k) && !(q.1 + 1 == k && q.2.category == 2))
def zu (σ : zM) (r k : Nat) (x : Int32) : zM := fun r' k' => if r' = r then upd (σ r) k x k' else σ r' k'
def zcp (σ : zM) (a b sp dp n : Nat) : zM := fun r' k' => if r' = b then va_cpy (σ a) (σ b) sp dp n k' else σ r' k'
def zf (σ : zM) (r ci k : Nat) : Option Value := match zLy[r]? with
  | some (.inr (.inl (c, fl))) => if c = ci then (fl[k]?).map (fun o => match o with | some q => .ref q | none => .int (σ r k)) else none
  | _ => none
def zfi (r ci k : Nat) : Bool := match zLy[r]? with
  | some (.inr (.inl (c, fl))) => c == ci && fl[k]? == some none
  | _ => false
def zcls (r : Nat) : Nat := match zLy[r]? with
  | some (.inr (.inl (c, _))) => c
  | _ => 99
def zfd (ci k : Nat) : String := match vwCl[ci]? with
  | some q => (q.2.1 k).2.2.1
  | none => ""
def zref (v : Value) : Prop := v = .null ∨ ∃ r, v = .ref r
def zcc (c : Jvm.ClassFile.Cond) (x y : Int32) : Prop := match c with
  | .eq => x = y
  | .ne => ¬ x = y
  | .lt => x < y
  | .ge => y ≤ x
  | .gt => y < x
  | .le => x ≤ y
def zk1 (st : List Value) (k : Int32 → List Value → Prop) : Prop := match st with
  | .int x :: r => k x r
  | _ => False
def zk2 (st : List Value) (k : Int32 → Int32 → List Value → Prop) : Prop := match st with
  | .int y :: .int x :: r => k x y r
  | _ => False
def zk1l (st : List Value) (k : Int64 → List Value → Prop) : Prop := match st with
  | .long x :: r => k x r
  | _ => False
def zk2l (st : List Value) (k : Int64 → Int64 → List Value → Prop) : Prop := match st with
  | .long y :: .long x :: r => k x y r
  | _ => False
def zkil (st : List Value) (k : Int64 → Int32 → List Value → Prop) : Prop := match st with
  | .int y :: .long x :: r => k x y r
  | _ => False
def zkv (st : List Value) (k : Value → List Value → Prop) : Prop := match st with
  | v :: r => k v r
  | _ => False
def zkr (st : List Value) (k : Nat → List Value → Prop) : Prop := match st with
  | .ref b :: r => k b r
  | _ => False
def zkir (st : List Value) (k : Int32 → Nat → List Value → Prop) : Prop := match st with
  | .int x :: .ref b :: r => k x b r
  | _ => False
def zkiir (st : List Value) (k : Int32 → Int32 → Nat → List Value → Prop) : Prop := match st with
  | .int x :: .int i :: .ref b :: r => k x i b r
  | _ => False
def zkcp (st : List Value) (k : Int32 → Int32 → Nat → Int32 → Nat → List Value → Prop) : Prop := match st with
  | .int n :: .int dp :: .ref b :: .int sp :: .ref a :: r => k n dp b sp a r
  | _ => False
theorem zk1_e {st : List Value} {k : Int32 → List Value → Prop} (h : zk1 st k) : ∃ x r, st = .int x :: r ∧ k x r := by
  unfold zk1 at h; split at h
  · exact ⟨_, _, rfl, h⟩
  · exact h.elim
theorem zk2_e {st : List Value} {k : Int32 → Int32 → List Value → Prop} (h : zk2 st k) : ∃ x y r, st = .int y :: .int x :: r ∧ k x y r := by
  unfold zk2 at h; split at h
  · exact ⟨_, _, _, rfl, h⟩
  · exact h.elim
theorem zk1l_e {st : List Value} {k : Int64 → List Value → Prop} (h : zk1l st k) : ∃ x r, st = .long x :: r ∧ k x r := by
  unfold zk1l at h; split at h
  · exact ⟨_, _, rfl, h⟩
  · exact h.elim
theorem zk2l_e {st : List Value} {k : Int64 → Int64 → List Value → Prop} (h : zk2l st k) : ∃ x y r, st = .long y :: .long x :: r ∧ k x y r := by
  unfold zk2l at h; split at h
  · exact ⟨_, _, _, rfl, h⟩
  · exact h.elim
theorem zkil_e {st : List Value} {k : Int64 → Int32 → List Value → Prop} (h : zkil st k) : ∃ x y r, st = .int y :: .long x :: r ∧ k x y r := by
  unfold zkil at h; split at h
  · exact ⟨_, _, _, rfl, h⟩
  · exact h.elim
theorem zkv_e {st : List Value} {k : Value → List Value → Prop} (h : zkv st k) : ∃ v r, st = v :: r ∧ k v r := by
  unfold zkv at h; split at h
  · exact ⟨_, _, rfl, h⟩
  · exact h.elim
theorem zkr_e {st : List Value} {k : Nat → List Value → Prop} (h : zkr st k) : ∃ b r, st = .ref b :: r ∧ k b r := by
  unfold zkr at h; split at h
  · exact ⟨_, _, rfl, h⟩
  · exact h.elim
theorem zkir_e {st : List Value} {k : Int32 → Nat → List Value → Prop} (h : zkir st k) : ∃ x b r, st = .int x :: .ref b :: r ∧ k x b r := by
  unfold zkir at h; split at h
  · exact ⟨_, _, _, rfl, h⟩
  · exact h.elim
theorem zkiir_e {st : List Value} {k : Int32 → Int32 → Nat → List Value → Prop} (h : zkiir st k) : ∃ x i b r, st = .int x :: .int i :: .ref b :: r ∧ k x i b r := by
  unfold zkiir at h; split at h
  · exact ⟨_, _, _, _, rfl, h⟩
  · exact h.elim
theorem zkcp_e {st : List Value} {k : Int32 → Int32 → Nat → Int32 → Nat → List Value → Prop} (h : zkcp st k) : ∃ n dp b sp a r, st = .int n :: .int dp :: .ref b :: .int sp :: .ref a :: r ∧ k n dp b sp a r := by
  unfold zkcp at h; split at h
  · exact ⟨_, _, _, _, _, _, rfl, h⟩
  · exact h.elim
def zcat (l : List Value) : Nat := (l.map fun v => v.category).sum
/-- a call of method m' with n values of the stack -/
def zcall (Z : zT) (d m i m' n : Nat) (lv : List (Nat × Value)) (st : List Value) (σ : zM) (Q : Option Value → zM → Prop) : Prop :=
  ∃ args rest, st = args.reverse ++ rest ∧ args.length = n ∧ (lg_sl args).length ≤ zl m' ∧ zcat rest ≤ 8 ∧ ∃ d', d = d' + 1 ∧ ∃ Q' : Option Value → zM → Prop, Z d' m' 0 (lv_args 0 args) [] σ Q' ∧ ∀ r σ', Q' r σ' → Z d m (i + 1) lv (r.toList ++ rest) σ' Q
def zcallV (Z : zT) (d m i m' n : Nat) (lv : List (Nat × Value)) (st : List Value) (σ : zM) (Q : Option Value → zM → Prop) : Prop :=
  ∃ b args rest, st = args.reverse ++ .ref b :: rest ∧ args.length = n ∧ (lg_sl (.ref b :: args)).length ≤ zl m' ∧ zcls b = zci m' ∧ zcat rest ≤ 8 ∧ ∃ d', d = d' + 1 ∧ ∃ Q' : Option Value → zM → Prop, Z d' m' 0 (lv_args 0 (.ref b :: args)) [] σ Q' ∧ ∀ r σ', Q' r σ' → Z d m (i + 1) lv (r.toList ++ rest) σ' Q
def zcopy (Z : zT) (d m i : Nat) (lv : List (Nat × Value)) (st : List Value) (σ : zM) (Q : Option Value → zM → Prop) : Prop :=
  zkcp st fun n dp b sp a r => ∃ n0 n1, zLy[a]? = some (.inl n0) ∧ zLy[b]? = some (.inl n1) ∧ ¬ sp < 0 ∧ ¬ dp < 0 ∧ ¬ n < 0 ∧ sp.toNatClampNeg + n.toNatClampNeg ≤ n0 ∧ dp.toNatClampNeg + n.toNatClampNeg ≤ n1 ∧ zcat r ≤ 8 ∧ 1 ≤ d ∧
    Z d m (i + 1) lv r (zcp σ a b sp.toNatClampNeg dp.toNatClampNeg n.toNatClampNeg) Q
def zldc (L : List Nat) : Int := if zL L 1 = 1 then -(zL L 0 : Int) else (zL L 0 : Int)
def zI (Z : zT) (d m i : Nat) (I : Instr) (L : List Nat) (lv : List (Nat × Value)) (st : List Value) (σ : zM) (Q : Option Value → zM → Prop) : Prop := match I with
  | .iconst n => Z d m (i + 1) lv (.int (Int32.ofInt n) :: st) σ Q
  | .bipush n => Z d m (i + 1) lv (.int (Int8.ofInt n).toInt32 :: st) σ Q
  | .sipush n => Z d m (i + 1) lv (.int (Int16.ofInt n).toInt32 :: st) σ Q
  | .lconst n => Z d m (i + 1) lv (.long (Int64.ofNat (n : Nat)) :: st) σ Q
  | .ldc _ => Z d m (i + 1) lv (.int (Int32.ofInt (zldc L)) :: st) σ Q
  | .ldc_w _ => Z d m (i + 1) lv (.int (Int32.ofInt (zldc L)) :: st) σ Q
  | .ldc2_w _ => Z d m (i + 1) lv (.long (Int64.ofInt (zldc L)) :: st) σ Q
  | .aconst_null => Z d m (i + 1) lv (.null :: st) σ Q
  | .iload k => ∃ x, zg lv k = some (.int x) ∧ Z d m (i + 1) lv (.int x :: st) σ Q
  | .iload_n k => ∃ x, zg lv k.val = some (.int x) ∧ Z d m (i + 1) lv (.int x :: st) σ Q
  | .lload k => ∃ x, zg lv k = some (.long x) ∧ Z d m (i + 1) lv (.long x :: st) σ Q
  | .lload_n k => ∃ x, zg lv k.val = some (.long x) ∧ Z d m (i + 1) lv (.long x :: st) σ Q
  | .aload k => ∃ v, zg lv k = some v ∧ zref v ∧ Z d m (i + 1) lv (v :: st) σ Q
  | .aload_n k => ∃ v, zg lv k.val = some v ∧ zref v ∧ Z d m (i + 1) lv (v :: st) σ Q
  | .istore k => zk1 st fun x r => Z d m (i + 1) (zs lv k (.int x)) r σ Q
  | .istore_n k => zk1 st fun x r => Z d m (i + 1) (zs lv k.val (.int x)) r σ Q
  | .astore k => zkv st fun v r => zref v ∧ Z d m (i + 1) (zs lv k v) r σ Q
  | .astore_n k => zkv st fun v r => zref v ∧ Z d m (i + 1) (zs lv k.val v) r σ Q
  | .iinc k n => ∃ x, zg lv k = some (.int x) ∧ Z d m (i + 1) (zs lv k (.int (x + Int32.ofInt n))) st σ Q
  | .iadd => zk2 st fun x y r => Z d m (i + 1) lv (.int (x + y) :: r) σ Q
  | .isub => zk2 st fun x y r => Z d m (i + 1) lv (.int (x - y) :: r) σ Q
  | .imul => zk2 st fun x y r => Z d m (i + 1) lv (.int (x * y) :: r) σ Q
  | .iand => zk2 st fun x y r => Z d m (i + 1) lv (.int (x &&& y) :: r) σ Q
  | .ior => zk2 st fun x y r => Z d m (i + 1) lv (.int (x ||| y) :: r) σ Q
  | .ixor => zk2 st fun x y r => Z d m (i + 1) lv (.int (x ^^^ y) :: r) σ Q
  | .idiv => zk2 st fun x y r => ¬ y = 0 ∧ Z d m (i + 1) lv (.int (x / y) :: r) σ Q
  | .irem => zk2 st fun x y r => ¬ y = 0 ∧ Z d m (i + 1) lv (.int (x - x / y * y) :: r) σ Q
  | .ineg => zk1 st fun x r => Z d m (i + 1) lv (.int (-x) :: r) σ Q
  | .ishl => zk2 st fun x y r => Z d m (i + 1) lv (.int (x <<< (y &&& 31)) :: r) σ Q
  | .ishr => zk2 st fun x y r => Z d m (i + 1) lv (.int (x >>> (y &&& 31)) :: r) σ Q
  | .iushr => zk2 st fun x y r => Z d m (i + 1) lv (.int (x.toUInt32 >>> (y.toUInt32 &&& Int32.toUInt32 31)).toInt32 :: r) σ Q
  | .i2l => zk1 st fun x r => Z d m (i + 1) lv (.long x.toInt64 :: r) σ Q
  | .l2i => zk1l st fun x r => Z d m (i + 1) lv (.int x.toInt32 :: r) σ Q
  | .i2b => zk1 st fun x r => Z d m (i + 1) lv (.int x.toInt8.toInt32 :: r) σ Q
  | .i2s => zk1 st fun x r => Z d m (i + 1) lv (.int x.toInt16.toInt32 :: r) σ Q
  | .ladd => zk2l st fun x y r => Z d m (i + 1) lv (.long (x + y) :: r) σ Q
  | .lmul => zk2l st fun x y r => Z d m (i + 1) lv (.long (x * y) :: r) σ Q
  | .land => zk2l st fun x y r => Z d m (i + 1) lv (.long (x &&& y) :: r) σ Q
  | .lor => zk2l st fun x y r => Z d m (i + 1) lv (.long (x ||| y) :: r) σ Q
  | .lshl => zkil st fun x y r => Z d m (i + 1) lv (.long (x <<< (y.toInt64 &&& 63)) :: r) σ Q
  | .lshr => zkil st fun x y r => Z d m (i + 1) lv (.long (x >>> (y.toInt64 &&& 63)) :: r) σ Q
  | .lushr => zkil st fun x y r => Z d m (i + 1) lv (.long (x.toUInt64 >>> (y.toInt64.toUInt64 &&& Int64.toUInt64 63)).toInt64 :: r) σ Q
  | .lcmp => zk2l st fun x y r => Z d m (i + 1) lv (.int (lg_cmp x y) :: r) σ Q
  | .dup => zkv st fun v r => v.category = 1 ∧ Z d m (i + 1) lv (v :: v :: r) σ Q
  | .dup2 => zkv st fun v r => zkv r fun w q => v.category = 1 ∧ w.category = 1 ∧ Z d m (i + 1) lv (v :: w :: v :: w :: q) σ Q
  | .pop => zkv st fun v r => v.category = 1 ∧ Z d m (i + 1) lv r σ Q
  | .getfield _ => zkr st fun b r => ∃ v, zf σ b (zL L 0) (zL L 1) = some v ∧ Z d m (i + 1) lv (v :: r) σ Q
  | .putfield _ => zkir st fun x b r => zfi b (zL L 0) (zL L 1) = true ∧ (zfd (zL L 0) (zL L 1) = "I" ∨ (zfd (zL L 0) (zL L 1) = "Z" ∧ (x = 0 ∨ x = 1))) ∧ Z d m (i + 1) lv r (zu σ b (zL L 1) x) Q
  | .iaload => zkir st fun x b r => ∃ n, zLy[b]? = some (.inl n) ∧ vp_in x n ∧ Z d m (i + 1) lv (.int (σ b x.toNatClampNeg) :: r) σ Q
  | .iastore => zkiir st fun x j b r => ∃ n, zLy[b]? = some (.inl n) ∧ vp_in j n ∧ Z d m (i + 1) lv r (zu σ b j.toNatClampNeg x) Q
  | .aaload => zkir st fun x b r => ∃ rs q, zLy[b]? = some (.inr (.inr rs)) ∧ vp_in x rs.length ∧ rs[x.toNatClampNeg]? = some q ∧ Z d m (i + 1) lv (.ref q :: r) σ Q
  | .arraylength => zkr st fun b r => ∃ n, (zLy[b]? = some (.inl n) ∨ ∃ rs, zLy[b]? = some (.inr (.inr rs)) ∧ rs.length = n) ∧ Z d m (i + 1) lv (.int (Int32.ofNat n) :: r) σ Q
  | .goto _ => Z d m (zL L 0) lv st σ Q
  | .ifCond c _ => zk1 st fun x r => (zcc c x 0 → Z d m (zL L 0) lv r σ Q) ∧ (¬ zcc c x 0 → Z d m (i + 1) lv r σ Q)
  | .if_icmp c _ => zk2 st fun x y r => (zcc c x y → Z d m (zL L 0) lv r σ Q) ∧ (¬ zcc c x y → Z d m (i + 1) lv r σ Q)
  | .ifnull _ => zkv st fun v r => (v = .null → Z d m (zL L 0) lv r σ Q) ∧ (∀ b, v = .ref b → Z d m (i + 1) lv r σ Q) ∧ zref v
  | .ifnonnull _ => zkv st fun v r => (v = .null → Z d m (i + 1) lv r σ Q) ∧ (∀ b, v = .ref b → Z d m (zL L 0) lv r σ Q) ∧ zref v
  | .tableswitch _ lo hi _ => zk1 st fun x r => ((x.toInt < lo ∨ hi < x.toInt) → Z d m (zL L 0) lv r σ Q) ∧ (¬ x.toInt < lo → ¬ hi < x.toInt → Z d m (zL L (1 + (x.toInt - lo).toNat)) lv r σ Q)
  | .ireturn => zk1 st fun x r => r = [] ∧ (zr m = some .int ∨ (zr m = some .boolean ∧ (x = 0 ∨ x = 1))) ∧ Q (some (.int x)) σ
  | .areturn => zkv st fun v r => r = [] ∧ zref v ∧ zr m = some (.object RX0) ∧ Q (some v) σ
  | .return_ => st = [] ∧ zr m = none ∧ Q none σ
  | .invokevirtual _ => zcallV Z d m i (zL L 0) (znp (zL L 0)) lv st σ Q
  | .invokestatic _ => if zL L 0 = 999 then zcopy Z d m i lv st σ Q else zcall Z d m i (zL L 0) (znp (zL L 0)) lv st σ Q
  | _ => False
def zst (Z : zT) : zT := fun d m i lv st σ Q => match (zP m)[i]? with
  | some (_, I, L) => zI Z d m i I L lv st σ Q
  | none => False
def zCl (Z : zT) : Prop := ∀ d m i lv st σ Q, zst Z d m i lv st σ Q → Z d m i lv st σ Q
def ZC : zT := fun d m i lv st σ Q => ∀ Z : zT, zCl Z → Z d m i lv st σ Q
end
section
/-! the rows are the bytes', their links are words of the tables: decided by the kernel, a method a row -/
def zw (k : Nat) : Option Jvm.Cond := lw_tbl[k]?
def zfl (ci k : Nat) (own : String) (idx : Nat) : Option Jvm.Cond := match vwCl[ci]? with
  | some q => if k < q.2.2 then some (.fieldLink own idx (q.2.1 k).1 (q.2.1 k).2.1 (q.2.1 k).2.2.1) else none
  | none => none
def zfin (ci k : Nat) : Bool := match vwCl[ci]? with
  | some q => (q.2.1 k).2.2.2
  | none => true
/-- how long an instruction is -/
def zn (I : Instr) (L : List Nat) : Nat := match I with
  | .bipush _ | .ldc _ | .iload _ | .lload _ | .aload _ | .istore _ | .astore _ => 2
  | .sipush _ | .ldc_w _ | .ldc2_w _ | .iinc _ _ | .getfield _ | .putfield _ | .goto _ | .ifCond _ _ | .if_icmp _ _ | .ifnull _ | .ifnonnull _ | .invokevirtual _ | .invokestatic _ => 3
  | .tableswitch _ _ _ _ => L.getLastD 0
  | _ => 1
/-- does the next row follow? -/
def zfall (I : Instr) : Bool := match I with
  | .goto _ | .tableswitch _ _ _ _ | .ireturn | .areturn | .return_ => false
  | _ => true
def zlk (m pc : Nat) (I : Instr) (L : List Nat) : Bool := match I with
  | .istore k => decide (k < zl m)
  | .istore_n k => decide (k.val < zl m)
  | .astore k => decide (k < zl m)
  | .astore_n k => decide (k.val < zl m)
  | .iinc k _ => decide (k < zl m)
  | .ldc i => decide (zw (zL L 2) = some (.constant (zo m) i (Int32.ofInt (zldc L))))
  | .ldc_w i => decide (zw (zL L 2) = some (.constant (zo m) i (Int32.ofInt (zldc L))))
  | .ldc2_w i => decide (zw (zL L 2) = some (.constantLong (zo m) i (Int64.ofInt (zldc L))))
  | .getfield i => decide (zfl (zL L 0) (zL L 1) (zo m) i ≠ none) && decide (zw (zL L 2) = zfl (zL L 0) (zL L 1) (zo m) i)
  | .putfield i => decide (zfl (zL L 0) (zL L 1) (zo m) i ≠ none) && decide (zw (zL L 2) = zfl (zL L 0) (zL L 1) (zo m) i) && !zfin (zL L 0) (zL L 1)
  | .goto off | .ifCond _ off | .if_icmp _ off | .ifnull off | .ifnonnull off => decide ((pc : Int) + off = (zpc m (zL L 0) : Int))
  | .tableswitch dflt lo hi offs => decide ((pc : Int) + dflt = (zpc m (zL L 0) : Int)) && (List.range (hi - lo + 1).toNat).all fun j => match offs[j]? with
    | some off => decide ((pc : Int) + off = (zpc m (zL L (1 + j)) : Int))
    | none => false
  | .invokevirtual i => decide (zw (zL L 1) = some (.methodLink (zo m) i (zy (zL L 0)))) && decide (zw (zL L 2) = some (.instanceMethod (zy (zL L 0)))) && decide (zw (zL L 3) = some (.selects (zo (zL L 0)) (zy (zL L 0)) (zy (zL L 0)))) && decide (zL L 0 < 180) && decide (zci (zL L 0) < 5)
  | .invokestatic i => if zL L 0 = 999 then decide (zw (zL L 1) = some (.methodLink (zo m) i arraycopyName)) && decide (zw (zL L 2) = some (.native arraycopyName)) && decide (zw (zL L 3) = some (.static arraycopyName)) && decide (zw (zL L 4) = some (.initialized "java/lang/System"))
    else decide (zw (zL L 1) = some (.methodLink (zo m) i (zy (zL L 0))) ∨ zw (zL L 1) = some (.methodLinkNest (zo m) i (zy (zL L 0)) "ToothStones")) && decide (zw (zL L 2) = some (.static (zy (zL L 0)))) && decide (zL L 0 < 180)
  | _ => true
def zok (m i : Nat) (q : zR) : Bool := decide (decode (zb m) q.1 = .ok (q.2.1, zn q.2.1 q.2.2)) && (!zfall q.2.1 || decide (zpc m (i + 1) = q.1 + zn q.2.1 q.2.2)) && zlk m q.1 q.2.1 q.2.2
def zokM (m : Nat) : Bool := (List.range (zP m).length).all fun i => match (zP m)[i]? with
  | some q => zok m i q
  | none => false
def zokN (m : Nat) : Bool := decide (zw (zme m).2.2.2.2.2.2.1 = some (.code (zy m) (zb m) (zl m) (zr m))) && decide (zw (zme m).2.2.2.2.2.2.2 = some (.initialized (zo m))) && plainFor (zy m) && decide ((zo m) ≠ "java/lang/invoke/MethodHandle" ∧ (zo m) ≠ "java/lang/invoke/VarHandle" ∧ (parseMethodDescriptor (zy m).desc).map (fun d => d.parameters.length) = some (znp m)) && decide (zl m ≤ 13) && (zci m == 99 || decide ((vwCl[zci m]?).map (fun q => q.1) = some (zo m)))
set_option maxRecDepth 100000 in
theorem zokN_0 : zokN 0 = true := by decide +kernel
set_option maxRecDepth 100000 in
theorem zokN_1 : zokN 1 = true := by decide +kernel
set_option maxRecDepth 100000 in
theorem zokN_2 : zokN 2 = true := by decide +kernel
set_option maxRecDepth 100000 in
theorem zokN_3 : zokN 3 = true := by decide +kernel
set_option maxRecDepth 100000 in
theorem zokN_4 : zokN 4 = true := by decide +kernel
set_option maxRecDepth 100000 in
theorem zokN_5 : zokN 5 = true := by decide +kernel
set_option maxRecDepth 100000 in
theorem zokN_6 : zokN 6 = true := by decide +kernel
set_option maxRecDepth 100000 in
theorem zokN_7 : zokN 7 = true := by decide +kernel
set_option maxRecDepth 100000 in
theorem zokN_8 : zokN 8 = true := by decide +kernel
set_option maxRecDepth 100000 in
theorem zokN_9 : zokN 9 = true := by decide +kernel
set_option maxRecDepth 100000 in
theorem zokN_10 : zokN 10 = true := by decide +kernel
set_option maxRecDepth 100000 in
theorem zokN_11 : zokN 11 = true := by decide +kernel
set_option maxRecDepth 100000 in
theorem zokN_12 : zokN 12 = true := by decide +kernel
set_option maxRecDepth 100000 in
theorem zokN_13 : zokN 13 = true := by decide +kernel
set_option maxRecDepth 100000 in
theorem zokN_14 : zokN 14 = true := by decide +kernel
set_option maxRecDepth 100000 in
theorem zokN_15 : zokN 15 = true := by decide +kernel
set_option maxRecDepth 100000 in
theorem zokN_16 : zokN 16 = true := by decide +kernel
set_option maxRecDepth 100000 in
theorem zokN_17 : zokN 17 = true := by decide +kernel
set_option maxRecDepth 100000 in
theorem zokN_18 : zokN 18 = true := by decide +kernel
set_option maxRecDepth 100000 in
theorem zokN_19 : zokN 19 = true := by decide +kernel
set_option maxRecDepth 100000 in
theorem zokN_20 : zokN 20 = true := by decide +kernel
set_option maxRecDepth 100000 in
theorem zokN_21 : zokN 21 = true := by decide +kernel
set_option maxRecDepth 100000 in
theorem zokN_22 : zokN 22 = true := by decide +kernel
set_option maxRecDepth 100000 in
theorem zokN_23 : zokN 23 = true := by decide +kernel
set_option maxRecDepth 100000 in
theorem zokN_24 : zokN 24 = true := by decide +kernel
set_option maxRecDepth 100000 in
theorem zokN_25 : zokN 25 = true := by decide +kernel
set_option maxRecDepth 100000 in
theorem zokN_26 : zokN 26 = true := by decide +kernel
set_option maxRecDepth 100000 in
theorem zokN_27 : zokN 27 = true := by decide +kernel
set_option maxRecDepth 100000 in
theorem zokN_28 : zokN 28 = true := by decide +kernel
set_option maxRecDepth 100000 in
theorem zokN_29 : zokN 29 = true := by decide +kernel
set_option maxRecDepth 100000 in
theorem zokN_30 : zokN 30 = true := by decide +kernel
set_option maxRecDepth 100000 in
theorem zokN_31 : zokN 31 = true := by decide +kernel
set_option maxRecDepth 100000 in
theorem zokN_32 : zokN 32 = true := by decide +kernel
set_option maxRecDepth 100000 in
theorem zokN_33 : zokN 33 = true := by decide +kernel
set_option maxRecDepth 100000 in
theorem zokN_34 : zokN 34 = true := by decide +kernel
set_option maxRecDepth 100000 in
theorem zokN_35 : zokN 35 = true := by decide +kernel
set_option maxRecDepth 100000 in
theorem zokN_36 : zokN 36 = true := by decide +kernel
set_option maxRecDepth 100000 in
theorem zokN_37 : zokN 37 = true := by decide +kernel
set_option maxRecDepth 100000 in
theorem zokN_38 : zokN 38 = true := by decide +kernel
set_option maxRecDepth 100000 in
theorem zokN_39 : zokN 39 = true := by decide +kernel
set_option maxRecDepth 100000 in
theorem zokN_40 : zokN 40 = true := by decide +kernel
set_option maxRecDepth 100000 in
theorem zokN_41 : zokN 41 = true := by decide +kernel
set_option maxRecDepth 100000 in
theorem zokN_42 : zokN 42 = true := by decide +kernel
set_option maxRecDepth 100000 in
theorem zokN_43 : zokN 43 = true := by decide +kernel
set_option maxRecDepth 100000 in
theorem zokN_44 : zokN 44 = true := by decide +kernel
set_option maxRecDepth 100000 in
theorem zokN_45 : zokN 45 = true := by decide +kernel
set_option maxRecDepth 100000 in
theorem zokN_46 : zokN 46 = true := by decide +kernel
set_option maxRecDepth 100000 in
theorem zokN_47 : zokN 47 = true := by decide +kernel
set_option maxRecDepth 100000 in
theorem zokN_48 : zokN 48 = true := by decide +kernel
set_option maxRecDepth 100000 in
theorem zokN_49 : zokN 49 = true := by decide +kernel
set_option maxRecDepth 100000 in
theorem zokN_50 : zokN 50 = true := by decide +kernel
set_option maxRecDepth 100000 in
theorem zokN_51 : zokN 51 = true := by decide +kernel
set_option maxRecDepth 100000 in
theorem zokN_52 : zokN 52 = true := by decide +kernel
set_option maxRecDepth 100000 in
theorem zokN_53 : zokN 53 = true := by decide +kernel
set_option maxRecDepth 100000 in
theorem zokN_54 : zokN 54 = true := by decide +kernel
set_option maxRecDepth 100000 in
theorem zokN_55 : zokN 55 = true := by decide +kernel
set_option maxRecDepth 100000 in
theorem zokN_56 : zokN 56 = true := by decide +kernel
set_option maxRecDepth 100000 in
theorem zokN_57 : zokN 57 = true := by decide +kernel
set_option maxRecDepth 100000 in
theorem zokN_58 : zokN 58 = true := by decide +kernel
set_option maxRecDepth 100000 in
theorem zokN_59 : zokN 59 = true := by decide +kernel
set_option maxRecDepth 100000 in
theorem zokN_60 : zokN 60 = true := by decide +kernel
set_option maxRecDepth 100000 in
theorem zokN_61 : zokN 61 = true := by decide +kernel
set_option maxRecDepth 100000 in
theorem zokN_62 : zokN 62 = true := by decide +kernel
set_option maxRecDepth 100000 in
theorem zokN_63 : zokN 63 = true := by decide +kernel
set_option maxRecDepth 100000 in
theorem zokN_64 : zokN 64 = true := by decide +kernel
set_option maxRecDepth 100000 in
theorem zokN_65 : zokN 65 = true := by decide +kernel
set_option maxRecDepth 100000 in
theorem zokN_66 : zokN 66 = true := by decide +kernel
set_option maxRecDepth 100000 in
theorem zokN_67 : zokN 67 = true := by decide +kernel
set_option maxRecDepth 100000 in
theorem zokN_68 : zokN 68 = true := by decide +kernel
set_option maxRecDepth 100000 in
theorem zokN_69 : zokN 69 = true := by decide +kernel
set_option maxRecDepth 100000 in
theorem zokN_70 : zokN 70 = true := by decide +kernel
set_option maxRecDepth 100000 in
theorem zokN_71 : zokN 71 = true := by decide +kernel
set_option maxRecDepth 100000 in
theorem zokN_72 : zokN 72 = true := by decide +kernel
set_option maxRecDepth 100000 in
theorem zokN_73 : zokN 73 = true := by decide +kernel
set_option maxRecDepth 100000 in
theorem zokN_74 : zokN 74 = true := by decide +kernel
set_option maxRecDepth 100000 in
theorem zokN_75 : zokN 75 = true := by decide +kernel
set_option maxRecDepth 100000 in
theorem zokN_76 : zokN 76 = true := by decide +kernel
set_option maxRecDepth 100000 in
theorem zokN_77 : zokN 77 = true := by decide +kernel
set_option maxRecDepth 100000 in
theorem zokN_78 : zokN 78 = true := by decide +kernel
set_option maxRecDepth 100000 in
theorem zokN_79 : zokN 79 = true := by decide +kernel
set_option maxRecDepth 100000 in
theorem zokN_80 : zokN 80 = true := by decide +kernel
set_option maxRecDepth 100000 in
theorem zokN_81 : zokN 81 = true := by decide +kernel
set_option maxRecDepth 100000 in
theorem zokN_82 : zokN 82 = true := by decide +kernel
set_option maxRecDepth 100000 in
theorem zokN_83 : zokN 83 = true := by decide +kernel
set_option maxRecDepth 100000 in
theorem zokN_84 : zokN 84 = true := by decide +kernel
set_option maxRecDepth 100000 in
theorem zokN_85 : zokN 85 = true := by decide +kernel
set_option maxRecDepth 100000 in
theorem zokN_86 : zokN 86 = true := by decide +kernel
set_option maxRecDepth 100000 in
theorem zokN_87 : zokN 87 = true := by decide +kernel
set_option maxRecDepth 100000 in
theorem zokN_88 : zokN 88 = true := by decide +kernel
set_option maxRecDepth 100000 in
theorem zokN_89 : zokN 89 = true := by decide +kernel
set_option maxRecDepth 100000 in
theorem zokN_90 : zokN 90 = true := by decide +kernel
set_option maxRecDepth 100000 in
theorem zokN_91 : zokN 91 = true := by decide +kernel
set_option maxRecDepth 100000 in
theorem zokN_92 : zokN 92 = true := by decide +kernel
set_option maxRecDepth 100000 in
theorem zokN_93 : zokN 93 = true := by decide +kernel
set_option maxRecDepth 100000 in
theorem zokN_94 : zokN 94 = true := by decide +kernel
set_option maxRecDepth 100000 in
theorem zokN_95 : zokN 95 = true := by decide +kernel
set_option maxRecDepth 100000 in
theorem zokN_96 : zokN 96 = true := by decide +kernel
set_option maxRecDepth 100000 in
theorem zokN_97 : zokN 97 = true := by decide +kernel
set_option maxRecDepth 100000 in
theorem zokN_98 : zokN 98 = true := by decide +kernel
set_option maxRecDepth 100000 in
theorem zokN_99 : zokN 99 = true := by decide +kernel
set_option maxRecDepth 100000 in
theorem zokN_100 : zokN 100 = true := by decide +kernel
set_option maxRecDepth 100000 in
theorem zokN_101 : zokN 101 = true := by decide +kernel
set_option maxRecDepth 100000 in
theorem zokN_102 : zokN 102 = true := by decide +kernel
set_option maxRecDepth 100000 in
theorem zokN_103 : zokN 103 = true := by decide +kernel
set_option maxRecDepth 100000 in
theorem zokN_104 : zokN 104 = true := by decide +kernel
set_option maxRecDepth 100000 in
theorem zokN_105 : zokN 105 = true := by decide +kernel
set_option maxRecDepth 100000 in
theorem zokN_106 : zokN 106 = true := by decide +kernel
set_option maxRecDepth 100000 in
theorem zokN_107 : zokN 107 = true := by decide +kernel
set_option maxRecDepth 100000 in
theorem zokN_108 : zokN 108 = true := by decide +kernel
set_option maxRecDepth 100000 in
theorem zokN_109 : zokN 109 = true := by decide +kernel
set_option maxRecDepth 100000 in
theorem zokN_110 : zokN 110 = true := by decide +kernel
set_option maxRecDepth 100000 in
theorem zokN_111 : zokN 111 = true := by decide +kernel
set_option maxRecDepth 100000 in
theorem zokN_112 : zokN 112 = true := by decide +kernel
set_option maxRecDepth 100000 in
theorem zokN_113 : zokN 113 = true := by decide +kernel
set_option maxRecDepth 100000 in
theorem zokN_114 : zokN 114 = true := by decide +kernel
set_option maxRecDepth 100000 in
theorem zokN_115 : zokN 115 = true := by decide +kernel
set_option maxRecDepth 100000 in
theorem zokN_116 : zokN 116 = true := by decide +kernel
set_option maxRecDepth 100000 in
theorem zokN_117 : zokN 117 = true := by decide +kernel
set_option maxRecDepth 100000 in
theorem zokN_118 : zokN 118 = true := by decide +kernel
set_option maxRecDepth 100000 in
theorem zokN_119 : zokN 119 = true := by decide +kernel
set_option maxRecDepth 100000 in
theorem zokN_120 : zokN 120 = true := by decide +kernel
set_option maxRecDepth 100000 in
theorem zokN_121 : zokN 121 = true := by decide +kernel
set_option maxRecDepth 100000 in
theorem zokN_122 : zokN 122 = true := by decide +kernel
set_option maxRecDepth 100000 in
theorem zokN_123 : zokN 123 = true := by decide +kernel
set_option maxRecDepth 100000 in
theorem zokN_124 : zokN 124 = true := by decide +kernel
set_option maxRecDepth 100000 in
theorem zokN_125 : zokN 125 = true := by decide +kernel
set_option maxRecDepth 100000 in
theorem zokN_126 : zokN 126 = true := by decide +kernel
set_option maxRecDepth 100000 in
theorem zokN_127 : zokN 127 = true := by decide +kernel
set_option maxRecDepth 100000 in
theorem zokN_128 : zokN 128 = true := by decide +kernel
set_option maxRecDepth 100000 in
theorem zokN_129 : zokN 129 = true := by decide +kernel
set_option maxRecDepth 100000 in
theorem zokN_130 : zokN 130 = true := by decide +kernel
set_option maxRecDepth 100000 in
theorem zokN_131 : zokN 131 = true := by decide +kernel
set_option maxRecDepth 100000 in
theorem zokN_132 : zokN 132 = true := by decide +kernel
set_option maxRecDepth 100000 in
theorem zokN_133 : zokN 133 = true := by decide +kernel
set_option maxRecDepth 100000 in
theorem zokN_134 : zokN 134 = true := by decide +kernel
set_option maxRecDepth 100000 in
theorem zokN_135 : zokN 135 = true := by decide +kernel
set_option maxRecDepth 100000 in
theorem zokN_136 : zokN 136 = true := by decide +kernel
set_option maxRecDepth 100000 in
theorem zokN_137 : zokN 137 = true := by decide +kernel
set_option maxRecDepth 100000 in
theorem zokN_138 : zokN 138 = true := by decide +kernel
set_option maxRecDepth 100000 in
theorem zokN_139 : zokN 139 = true := by decide +kernel
set_option maxRecDepth 100000 in
theorem zokN_140 : zokN 140 = true := by decide +kernel
set_option maxRecDepth 100000 in
theorem zokN_141 : zokN 141 = true := by decide +kernel
set_option maxRecDepth 100000 in
theorem zokN_142 : zokN 142 = true := by decide +kernel
set_option maxRecDepth 100000 in
theorem zokN_143 : zokN 143 = true := by decide +kernel
set_option maxRecDepth 100000 in
theorem zokN_144 : zokN 144 = true := by decide +kernel
set_option maxRecDepth 100000 in
theorem zokN_145 : zokN 145 = true := by decide +kernel
set_option maxRecDepth 100000 in
theorem zokN_146 : zokN 146 = true := by decide +kernel
set_option maxRecDepth 100000 in
theorem zokN_147 : zokN 147 = true := by decide +kernel
set_option maxRecDepth 100000 in
theorem zokN_148 : zokN 148 = true := by decide +kernel
set_option maxRecDepth 100000 in
theorem zokN_149 : zokN 149 = true := by decide +kernel
set_option maxRecDepth 100000 in
theorem zokN_150 : zokN 150 = true := by decide +kernel
set_option maxRecDepth 100000 in
theorem zokN_151 : zokN 151 = true := by decide +kernel
set_option maxRecDepth 100000 in
theorem zokN_152 : zokN 152 = true := by decide +kernel
set_option maxRecDepth 100000 in
theorem zokN_153 : zokN 153 = true := by decide +kernel
set_option maxRecDepth 100000 in
theorem zokN_154 : zokN 154 = true := by decide +kernel
set_option maxRecDepth 100000 in
theorem zokN_155 : zokN 155 = true := by decide +kernel
set_option maxRecDepth 100000 in
theorem zokN_156 : zokN 156 = true := by decide +kernel
set_option maxRecDepth 100000 in
theorem zokN_157 : zokN 157 = true := by decide +kernel
set_option maxRecDepth 100000 in
theorem zokN_158 : zokN 158 = true := by decide +kernel
set_option maxRecDepth 100000 in
theorem zokN_159 : zokN 159 = true := by decide +kernel
set_option maxRecDepth 100000 in
theorem zokN_160 : zokN 160 = true := by decide +kernel
set_option maxRecDepth 100000 in
theorem zokN_161 : zokN 161 = true := by decide +kernel
set_option maxRecDepth 100000 in
theorem zokN_162 : zokN 162 = true := by decide +kernel
set_option maxRecDepth 100000 in
theorem zokN_163 : zokN 163 = true := by decide +kernel
set_option maxRecDepth 100000 in
theorem zokN_164 : zokN 164 = true := by decide +kernel
set_option maxRecDepth 100000 in
theorem zokN_165 : zokN 165 = true := by decide +kernel
set_option maxRecDepth 100000 in
theorem zokN_166 : zokN 166 = true := by decide +kernel
set_option maxRecDepth 100000 in
theorem zokN_167 : zokN 167 = true := by decide +kernel
set_option maxRecDepth 100000 in
theorem zokN_168 : zokN 168 = true := by decide +kernel
set_option maxRecDepth 100000 in
theorem zokN_169 : zokN 169 = true := by decide +kernel
set_option maxRecDepth 100000 in
theorem zokN_170 : zokN 170 = true := by decide +kernel
set_option maxRecDepth 100000 in
theorem zokN_171 : zokN 171 = true := by decide +kernel
set_option maxRecDepth 100000 in
theorem zokN_172 : zokN 172 = true := by decide +kernel
set_option maxRecDepth 100000 in
theorem zokN_173 : zokN 173 = true := by decide +kernel
set_option maxRecDepth 100000 in
theorem zokN_174 : zokN 174 = true := by decide +kernel
set_option maxRecDepth 100000 in
theorem zokN_175 : zokN 175 = true := by decide +kernel
set_option maxRecDepth 100000 in
theorem zokN_176 : zokN 176 = true := by decide +kernel
set_option maxRecDepth 100000 in
theorem zokN_177 : zokN 177 = true := by decide +kernel
set_option maxRecDepth 100000 in
theorem zokN_178 : zokN 178 = true := by decide +kernel
set_option maxRecDepth 100000 in
theorem zokN_179 : zokN 179 = true := by decide +kernel
set_option maxRecDepth 100000 in
theorem zokM_0 : zokM 0 = true := by decide +kernel
set_option maxRecDepth 100000 in
theorem zokM_1 : zokM 1 = true := by decide +kernel
set_option maxRecDepth 100000 in
theorem zokM_2 : zokM 2 = true := by decide +kernel
set_option maxRecDepth 100000 in
theorem zokM_3 : zokM 3 = true := by decide +kernel
set_option maxRecDepth 100000 in
theorem zokM_4 : zokM 4 = true := by decide +kernel
set_option maxRecDepth 100000 in
theorem zokM_5 : zokM 5 = true := by decide +kernel
set_option maxRecDepth 100000 in
theorem zokM_6 : zokM 6 = true := by decide +kernel
set_option maxRecDepth 100000 in
theorem zokM_7 : zokM 7 = true := by decide +kernel
set_option maxRecDepth 100000 in
theorem zokM_8 : zokM 8 = true := by decide +kernel
set_option maxRecDepth 100000 in
theorem zokM_9 : zokM 9 = true := by decide +kernel
set_option maxRecDepth 100000 in
theorem zokM_10 : zokM 10 = true := by decide +kernel
set_option maxRecDepth 100000 in
theorem zokM_11 : zokM 11 = true := by decide +kernel
set_option maxRecDepth 100000 in
theorem zokM_12 : zokM 12 = true := by decide +kernel
set_option maxRecDepth 100000 in
theorem zokM_13 : zokM 13 = true := by decide +kernel
set_option maxRecDepth 100000 in
theorem zokM_14 : zokM 14 = true := by decide +kernel
set_option maxRecDepth 100000 in
theorem zokM_15 : zokM 15 = true := by decide +kernel
set_option maxRecDepth 100000 in
theorem zokM_16 : zokM 16 = true := by decide +kernel
set_option maxRecDepth 100000 in
theorem zokM_17 : zokM 17 = true := by decide +kernel
set_option maxRecDepth 100000 in
theorem zokM_18 : zokM 18 = true := by decide +kernel
set_option maxRecDepth 100000 in
theorem zokM_19 : zokM 19 = true := by decide +kernel
set_option maxRecDepth 100000 in
theorem zokM_20 : zokM 20 = true := by decide +kernel
set_option maxRecDepth 100000 in
theorem zokM_21 : zokM 21 = true := by decide +kernel
set_option maxRecDepth 100000 in
theorem zokM_22 : zokM 22 = true := by decide +kernel
set_option maxRecDepth 100000 in
theorem zokM_23 : zokM 23 = true := by decide +kernel
set_option maxRecDepth 100000 in
theorem zokM_24 : zokM 24 = true := by decide +kernel
set_option maxRecDepth 100000 in
theorem zokM_25 : zokM 25 = true := by decide +kernel
set_option maxRecDepth 100000 in
theorem zokM_26 : zokM 26 = true := by decide +kernel
set_option maxRecDepth 100000 in
theorem zokM_27 : zokM 27 = true := by decide +kernel
set_option maxRecDepth 100000 in
theorem zokM_28 : zokM 28 = true := by decide +kernel
set_option maxRecDepth 100000 in
theorem zokM_29 : zokM 29 = true := by decide +kernel
set_option maxRecDepth 100000 in
theorem zokM_30 : zokM 30 = true := by decide +kernel
set_option maxRecDepth 100000 in
theorem zokM_31 : zokM 31 = true := by decide +kernel
set_option maxRecDepth 100000 in
theorem zokM_32 : zokM 32 = true := by decide +kernel
set_option maxRecDepth 100000 in
theorem zokM_33 : zokM 33 = true := by decide +kernel
set_option maxRecDepth 100000 in
theorem zokM_34 : zokM 34 = true := by decide +kernel
set_option maxRecDepth 100000 in
theorem zokM_35 : zokM 35 = true := by decide +kernel
set_option maxRecDepth 100000 in
theorem zokM_36 : zokM 36 = true := by decide +kernel
set_option maxRecDepth 100000 in
theorem zokM_37 : zokM 37 = true := by decide +kernel
set_option maxRecDepth 100000 in
theorem zokM_38 : zokM 38 = true := by decide +kernel
set_option maxRecDepth 100000 in
theorem zokM_39 : zokM 39 = true := by decide +kernel
set_option maxRecDepth 100000 in
theorem zokM_40 : zokM 40 = true := by decide +kernel
set_option maxRecDepth 100000 in
theorem zokM_41 : zokM 41 = true := by decide +kernel
set_option maxRecDepth 100000 in
theorem zokM_42 : zokM 42 = true := by decide +kernel
set_option maxRecDepth 100000 in
theorem zokM_43 : zokM 43 = true := by decide +kernel
set_option maxRecDepth 100000 in
theorem zokM_44 : zokM 44 = true := by decide +kernel
set_option maxRecDepth 100000 in
theorem zokM_45 : zokM 45 = true := by decide +kernel
set_option maxRecDepth 100000 in
theorem zokM_46 : zokM 46 = true := by decide +kernel
set_option maxRecDepth 100000 in
theorem zokM_47 : zokM 47 = true := by decide +kernel
set_option maxRecDepth 100000 in
theorem zokM_48 : zokM 48 = true := by decide +kernel
set_option maxRecDepth 100000 in
theorem zokM_49 : zokM 49 = true := by decide +kernel
set_option maxRecDepth 100000 in
theorem zokM_50 : zokM 50 = true := by decide +kernel
set_option maxRecDepth 100000 in
theorem zokM_51 : zokM 51 = true := by decide +kernel
set_option maxRecDepth 100000 in
theorem zokM_52 : zokM 52 = true := by decide +kernel
set_option maxRecDepth 100000 in
theorem zokM_53 : zokM 53 = true := by decide +kernel
set_option maxRecDepth 100000 in
theorem zokM_54 : zokM 54 = true := by decide +kernel
set_option maxRecDepth 100000 in
theorem zokM_55 : zokM 55 = true := by decide +kernel
set_option maxRecDepth 100000 in
theorem zokM_56 : zokM 56 = true := by decide +kernel
set_option maxRecDepth 100000 in
theorem zokM_57 : zokM 57 = true := by decide +kernel
set_option maxRecDepth 100000 in
theorem zokM_58 : zokM 58 = true := by decide +kernel
set_option maxRecDepth 100000 in
theorem zokM_59 : zokM 59 = true := by decide +kernel
set_option maxRecDepth 100000 in
theorem zokM_60 : zokM 60 = true := by decide +kernel
set_option maxRecDepth 100000 in
theorem zokM_61 : zokM 61 = true := by decide +kernel
set_option maxRecDepth 100000 in
theorem zokM_62 : zokM 62 = true := by decide +kernel
set_option maxRecDepth 100000 in
theorem zokM_63 : zokM 63 = true := by decide +kernel
set_option maxRecDepth 100000 in
theorem zokM_64 : zokM 64 = true := by decide +kernel
set_option maxRecDepth 100000 in
theorem zokM_65 : zokM 65 = true := by decide +kernel
set_option maxRecDepth 100000 in
theorem zokM_66 : zokM 66 = true := by decide +kernel
set_option maxRecDepth 100000 in
theorem zokM_67 : zokM 67 = true := by decide +kernel
set_option maxRecDepth 100000 in
theorem zokM_68 : zokM 68 = true := by decide +kernel
set_option maxRecDepth 100000 in
theorem zokM_69 : zokM 69 = true := by decide +kernel
set_option maxRecDepth 100000 in
theorem zokM_70 : zokM 70 = true := by decide +kernel
set_option maxRecDepth 100000 in
theorem zokM_71 : zokM 71 = true := by decide +kernel
set_option maxRecDepth 100000 in
theorem zokM_72 : zokM 72 = true := by decide +kernel
set_option maxRecDepth 100000 in
theorem zokM_73 : zokM 73 = true := by decide +kernel
set_option maxRecDepth 100000 in
theorem zokM_74 : zokM 74 = true := by decide +kernel
set_option maxRecDepth 100000 in
theorem zokM_75 : zokM 75 = true := by decide +kernel
set_option maxRecDepth 100000 in
theorem zokM_76 : zokM 76 = true := by decide +kernel
set_option maxRecDepth 100000 in
theorem zokM_77 : zokM 77 = true := by decide +kernel
set_option maxRecDepth 100000 in
theorem zokM_78 : zokM 78 = true := by decide +kernel
set_option maxRecDepth 100000 in
theorem zokM_79 : zokM 79 = true := by decide +kernel
set_option maxRecDepth 100000 in
theorem zokM_80 : zokM 80 = true := by decide +kernel
set_option maxRecDepth 100000 in
theorem zokM_81 : zokM 81 = true := by decide +kernel
set_option maxRecDepth 100000 in
theorem zokM_82 : zokM 82 = true := by decide +kernel
set_option maxRecDepth 100000 in
theorem zokM_83 : zokM 83 = true := by decide +kernel
set_option maxRecDepth 100000 in
theorem zokM_84 : zokM 84 = true := by decide +kernel
set_option maxRecDepth 100000 in
theorem zokM_85 : zokM 85 = true := by decide +kernel
set_option maxRecDepth 100000 in
theorem zokM_86 : zokM 86 = true := by decide +kernel
set_option maxRecDepth 100000 in
theorem zokM_87 : zokM 87 = true := by decide +kernel
set_option maxRecDepth 100000 in
theorem zokM_88 : zokM 88 = true := by decide +kernel
set_option maxRecDepth 100000 in
theorem zokM_89 : zokM 89 = true := by decide +kernel
set_option maxRecDepth 100000 in
theorem zokM_90 : zokM 90 = true := by decide +kernel
set_option maxRecDepth 100000 in
theorem zokM_91 : zokM 91 = true := by decide +kernel
set_option maxRecDepth 100000 in
theorem zokM_92 : zokM 92 = true := by decide +kernel
set_option maxRecDepth 100000 in
theorem zokM_93 : zokM 93 = true := by decide +kernel
set_option maxRecDepth 100000 in
theorem zokM_94 : zokM 94 = true := by decide +kernel
set_option maxRecDepth 100000 in
theorem zokM_95 : zokM 95 = true := by decide +kernel
set_option maxRecDepth 100000 in
theorem zokM_96 : zokM 96 = true := by decide +kernel
set_option maxRecDepth 100000 in
theorem zokM_97 : zokM 97 = true := by decide +kernel
set_option maxRecDepth 100000 in
theorem zokM_98 : zokM 98 = true := by decide +kernel
set_option maxRecDepth 100000 in
theorem zokM_99 : zokM 99 = true := by decide +kernel
set_option maxRecDepth 100000 in
theorem zokM_100 : zokM 100 = true := by decide +kernel
set_option maxRecDepth 100000 in
theorem zokM_101 : zokM 101 = true := by decide +kernel
set_option maxRecDepth 100000 in
theorem zokM_102 : zokM 102 = true := by decide +kernel
set_option maxRecDepth 100000 in
theorem zokM_103 : zokM 103 = true := by decide +kernel
set_option maxRecDepth 100000 in
theorem zokM_104 : zokM 104 = true := by decide +kernel
set_option maxRecDepth 100000 in
theorem zokM_105 : zokM 105 = true := by decide +kernel
set_option maxRecDepth 100000 in
theorem zokM_106 : zokM 106 = true := by decide +kernel
set_option maxRecDepth 100000 in
theorem zokM_107 : zokM 107 = true := by decide +kernel
set_option maxRecDepth 100000 in
theorem zokM_108 : zokM 108 = true := by decide +kernel
set_option maxRecDepth 100000 in
theorem zokM_109 : zokM 109 = true := by decide +kernel
set_option maxRecDepth 100000 in
theorem zokM_110 : zokM 110 = true := by decide +kernel
set_option maxRecDepth 100000 in
theorem zokM_111 : zokM 111 = true := by decide +kernel
set_option maxRecDepth 100000 in
theorem zokM_112 : zokM 112 = true := by decide +kernel
set_option maxRecDepth 100000 in
theorem zokM_113 : zokM 113 = true := by decide +kernel
set_option maxRecDepth 100000 in
theorem zokM_114 : zokM 114 = true := by decide +kernel
set_option maxRecDepth 100000 in
theorem zokM_115 : zokM 115 = true := by decide +kernel
set_option maxRecDepth 100000 in
theorem zokM_116 : zokM 116 = true := by decide +kernel
set_option maxRecDepth 100000 in
theorem zokM_117 : zokM 117 = true := by decide +kernel
set_option maxRecDepth 100000 in
theorem zokM_118 : zokM 118 = true := by decide +kernel
set_option maxRecDepth 100000 in
theorem zokM_119 : zokM 119 = true := by decide +kernel
set_option maxRecDepth 100000 in
theorem zokM_120 : zokM 120 = true := by decide +kernel
set_option maxRecDepth 100000 in
theorem zokM_121 : zokM 121 = true := by decide +kernel
set_option maxRecDepth 100000 in
theorem zokM_122 : zokM 122 = true := by decide +kernel
set_option maxRecDepth 100000 in
theorem zokM_123 : zokM 123 = true := by decide +kernel
set_option maxRecDepth 100000 in
theorem zokM_124 : zokM 124 = true := by decide +kernel
set_option maxRecDepth 100000 in
theorem zokM_125 : zokM 125 = true := by decide +kernel
set_option maxRecDepth 100000 in
theorem zokM_126 : zokM 126 = true := by decide +kernel
set_option maxRecDepth 100000 in
theorem zokM_127 : zokM 127 = true := by decide +kernel
set_option maxRecDepth 100000 in
theorem zokM_128 : zokM 128 = true := by decide +kernel
set_option maxRecDepth 100000 in
theorem zokM_129 : zokM 129 = true := by decide +kernel
set_option maxRecDepth 100000 in
theorem zokM_130 : zokM 130 = true := by decide +kernel
set_option maxRecDepth 100000 in
theorem zokM_131 : zokM 131 = true := by decide +kernel
set_option maxRecDepth 100000 in
theorem zokM_132 : zokM 132 = true := by decide +kernel
set_option maxRecDepth 100000 in
theorem zokM_133 : zokM 133 = true := by decide +kernel
set_option maxRecDepth 100000 in
theorem zokM_134 : zokM 134 = true := by decide +kernel
set_option maxRecDepth 100000 in
theorem zokM_135 : zokM 135 = true := by decide +kernel
set_option maxRecDepth 100000 in
theorem zokM_136 : zokM 136 = true := by decide +kernel
set_option maxRecDepth 100000 in
theorem zokM_137 : zokM 137 = true := by decide +kernel
set_option maxRecDepth 100000 in
theorem zokM_138 : zokM 138 = true := by decide +kernel
set_option maxRecDepth 100000 in
theorem zokM_139 : zokM 139 = true := by decide +kernel
set_option maxRecDepth 100000 in
theorem zokM_140 : zokM 140 = true := by decide +kernel
set_option maxRecDepth 100000 in
theorem zokM_141 : zokM 141 = true := by decide +kernel
set_option maxRecDepth 100000 in
theorem zokM_142 : zokM 142 = true := by decide +kernel
set_option maxRecDepth 100000 in
theorem zokM_143 : zokM 143 = true := by decide +kernel
set_option maxRecDepth 100000 in
theorem zokM_144 : zokM 144 = true := by decide +kernel
set_option maxRecDepth 100000 in
theorem zokM_145 : zokM 145 = true := by decide +kernel
set_option maxRecDepth 100000 in
theorem zokM_146 : zokM 146 = true := by decide +kernel
set_option maxRecDepth 100000 in
theorem zokM_147 : zokM 147 = true := by decide +kernel
set_option maxRecDepth 100000 in
theorem zokM_148 : zokM 148 = true := by decide +kernel
set_option maxRecDepth 100000 in
theorem zokM_149 : zokM 149 = true := by decide +kernel
set_option maxRecDepth 100000 in
theorem zokM_150 : zokM 150 = true := by decide +kernel
set_option maxRecDepth 100000 in
theorem zokM_151 : zokM 151 = true := by decide +kernel
set_option maxRecDepth 100000 in
theorem zokM_152 : zokM 152 = true := by decide +kernel
set_option maxRecDepth 100000 in
theorem zokM_153 : zokM 153 = true := by decide +kernel
set_option maxRecDepth 100000 in
theorem zokM_154 : zokM 154 = true := by decide +kernel
set_option maxRecDepth 100000 in
theorem zokM_155 : zokM 155 = true := by decide +kernel
set_option maxRecDepth 100000 in
theorem zokM_156 : zokM 156 = true := by decide +kernel
set_option maxRecDepth 100000 in
theorem zokM_157 : zokM 157 = true := by decide +kernel
set_option maxRecDepth 100000 in
theorem zokM_158 : zokM 158 = true := by decide +kernel
set_option maxRecDepth 100000 in
theorem zokM_159 : zokM 159 = true := by decide +kernel
set_option maxRecDepth 100000 in
theorem zokM_160 : zokM 160 = true := by decide +kernel
set_option maxRecDepth 100000 in
theorem zokM_161 : zokM 161 = true := by decide +kernel
set_option maxRecDepth 100000 in
theorem zokM_162 : zokM 162 = true := by decide +kernel
set_option maxRecDepth 100000 in
theorem zokM_163 : zokM 163 = true := by decide +kernel
set_option maxRecDepth 100000 in
theorem zokM_164 : zokM 164 = true := by decide +kernel
set_option maxRecDepth 100000 in
theorem zokM_165 : zokM 165 = true := by decide +kernel
set_option maxRecDepth 100000 in
theorem zokM_166 : zokM 166 = true := by decide +kernel
set_option maxRecDepth 100000 in
theorem zokM_167 : zokM 167 = true := by decide +kernel
set_option maxRecDepth 100000 in
theorem zokM_168 : zokM 168 = true := by decide +kernel
set_option maxRecDepth 100000 in
theorem zokM_169 : zokM 169 = true := by decide +kernel
set_option maxRecDepth 100000 in
theorem zokM_170 : zokM 170 = true := by decide +kernel
set_option maxRecDepth 100000 in
theorem zokM_171 : zokM 171 = true := by decide +kernel
set_option maxRecDepth 100000 in
theorem zokM_172 : zokM 172 = true := by decide +kernel
set_option maxRecDepth 100000 in
theorem zokM_173 : zokM 173 = true := by decide +kernel
set_option maxRecDepth 100000 in
theorem zokM_174 : zokM 174 = true := by decide +kernel
set_option maxRecDepth 100000 in
theorem zokM_175 : zokM 175 = true := by decide +kernel
set_option maxRecDepth 100000 in
theorem zokM_176 : zokM 176 = true := by decide +kernel
set_option maxRecDepth 100000 in
theorem zokM_177 : zokM 177 = true := by decide +kernel
set_option maxRecDepth 100000 in
theorem zokM_178 : zokM 178 = true := by decide +kernel
set_option maxRecDepth 100000 in
theorem zokM_179 : zokM 179 = true := by decide +kernel
theorem zokN_all : ∀ m, m < 180 → zokN m = true
  | 0, _ => zokN_0
  | 1, _ => zokN_1
  | 2, _ => zokN_2
  | 3, _ => zokN_3
  | 4, _ => zokN_4
  | 5, _ => zokN_5
  | 6, _ => zokN_6
  | 7, _ => zokN_7
  | 8, _ => zokN_8
  | 9, _ => zokN_9
  | 10, _ => zokN_10
  | 11, _ => zokN_11
  | 12, _ => zokN_12
  | 13, _ => zokN_13
  | 14, _ => zokN_14
  | 15, _ => zokN_15
  | 16, _ => zokN_16
  | 17, _ => zokN_17
  | 18, _ => zokN_18
  | 19, _ => zokN_19
  | 20, _ => zokN_20
  | 21, _ => zokN_21
  | 22, _ => zokN_22
  | 23, _ => zokN_23
  | 24, _ => zokN_24
  | 25, _ => zokN_25
  | 26, _ => zokN_26
  | 27, _ => zokN_27
  | 28, _ => zokN_28
  | 29, _ => zokN_29
  | 30, _ => zokN_30
  | 31, _ => zokN_31
  | 32, _ => zokN_32
  | 33, _ => zokN_33
  | 34, _ => zokN_34
  | 35, _ => zokN_35
  | 36, _ => zokN_36
  | 37, _ => zokN_37
  | 38, _ => zokN_38
  | 39, _ => zokN_39
  | 40, _ => zokN_40
  | 41, _ => zokN_41
  | 42, _ => zokN_42
  | 43, _ => zokN_43
  | 44, _ => zokN_44
  | 45, _ => zokN_45
  | 46, _ => zokN_46
  | 47, _ => zokN_47
  | 48, _ => zokN_48
  | 49, _ => zokN_49
  | 50, _ => zokN_50
  | 51, _ => zokN_51
  | 52, _ => zokN_52
  | 53, _ => zokN_53
  | 54, _ => zokN_54
  | 55, _ => zokN_55
  | 56, _ => zokN_56
  | 57, _ => zokN_57
  | 58, _ => zokN_58
  | 59, _ => zokN_59
  | 60, _ => zokN_60
  | 61, _ => zokN_61
  | 62, _ => zokN_62
  | 63, _ => zokN_63
  | 64, _ => zokN_64
  | 65, _ => zokN_65
  | 66, _ => zokN_66
  | 67, _ => zokN_67
  | 68, _ => zokN_68
  | 69, _ => zokN_69
  | 70, _ => zokN_70
  | 71, _ => zokN_71
  | 72, _ => zokN_72
  | 73, _ => zokN_73
  | 74, _ => zokN_74
  | 75, _ => zokN_75
  | 76, _ => zokN_76
  | 77, _ => zokN_77
  | 78, _ => zokN_78
  | 79, _ => zokN_79
  | 80, _ => zokN_80
  | 81, _ => zokN_81
  | 82, _ => zokN_82
  | 83, _ => zokN_83
  | 84, _ => zokN_84
  | 85, _ => zokN_85
  | 86, _ => zokN_86
  | 87, _ => zokN_87
  | 88, _ => zokN_88
  | 89, _ => zokN_89
  | 90, _ => zokN_90
  | 91, _ => zokN_91
  | 92, _ => zokN_92
  | 93, _ => zokN_93
  | 94, _ => zokN_94
  | 95, _ => zokN_95
  | 96, _ => zokN_96
  | 97, _ => zokN_97
  | 98, _ => zokN_98
  | 99, _ => zokN_99
  | 100, _ => zokN_100
  | 101, _ => zokN_101
  | 102, _ => zokN_102
  | 103, _ => zokN_103
  | 104, _ => zokN_104
  | 105, _ => zokN_105
  | 106, _ => zokN_106
  | 107, _ => zokN_107
  | 108, _ => zokN_108
  | 109, _ => zokN_109
  | 110, _ => zokN_110
  | 111, _ => zokN_111
  | 112, _ => zokN_112
  | 113, _ => zokN_113
  | 114, _ => zokN_114
  | 115, _ => zokN_115
  | 116, _ => zokN_116
  | 117, _ => zokN_117
  | 118, _ => zokN_118
  | 119, _ => zokN_119
  | 120, _ => zokN_120
  | 121, _ => zokN_121
  | 122, _ => zokN_122
  | 123, _ => zokN_123
  | 124, _ => zokN_124
  | 125, _ => zokN_125
  | 126, _ => zokN_126
  | 127, _ => zokN_127
  | 128, _ => zokN_128
  | 129, _ => zokN_129
  | 130, _ => zokN_130
  | 131, _ => zokN_131
  | 132, _ => zokN_132
  | 133, _ => zokN_133
  | 134, _ => zokN_134
  | 135, _ => zokN_135
  | 136, _ => zokN_136
  | 137, _ => zokN_137
  | 138, _ => zokN_138
  | 139, _ => zokN_139
  | 140, _ => zokN_140
  | 141, _ => zokN_141
  | 142, _ => zokN_142
  | 143, _ => zokN_143
  | 144, _ => zokN_144
  | 145, _ => zokN_145
  | 146, _ => zokN_146
  | 147, _ => zokN_147
  | 148, _ => zokN_148
  | 149, _ => zokN_149
  | 150, _ => zokN_150
  | 151, _ => zokN_151
  | 152, _ => zokN_152
  | 153, _ => zokN_153
  | 154, _ => zokN_154
  | 155, _ => zokN_155
  | 156, _ => zokN_156
  | 157, _ => zokN_157
  | 158, _ => zokN_158
  | 159, _ => zokN_159
  | 160, _ => zokN_160
  | 161, _ => zokN_161
  | 162, _ => zokN_162
  | 163, _ => zokN_163
  | 164, _ => zokN_164
  | 165, _ => zokN_165
  | 166, _ => zokN_166
  | 167, _ => zokN_167
  | 168, _ => zokN_168
  | 169, _ => zokN_169
  | 170, _ => zokN_170
  | 171, _ => zokN_171
  | 172, _ => zokN_172
  | 173, _ => zokN_173
  | 174, _ => zokN_174
  | 175, _ => zokN_175
  | 176, _ => zokN_176
  | 177, _ => zokN_177
  | 178, _ => zokN_178
  | 179, _ => zokN_179
  | m + 180, h => absurd h (by omega)
theorem zokM_all : ∀ m, m < 180 → zokM m = true
  | 0, _ => zokM_0
  | 1, _ => zokM_1
  | 2, _ => zokM_2
  | 3, _ => zokM_3
  | 4, _ => zokM_4
  | 5, _ => zokM_5
  | 6, _ => zokM_6
  | 7, _ => zokM_7
  | 8, _ => zokM_8
  | 9, _ => zokM_9
  | 10, _ => zokM_10
  | 11, _ => zokM_11
  | 12, _ => zokM_12
  | 13, _ => zokM_13
  | 14, _ => zokM_14
  | 15, _ => zokM_15
  | 16, _ => zokM_16
  | 17, _ => zokM_17
  | 18, _ => zokM_18
  | 19, _ => zokM_19
  | 20, _ => zokM_20
  | 21, _ => zokM_21
  | 22, _ => zokM_22
  | 23, _ => zokM_23
  | 24, _ => zokM_24
  | 25, _ => zokM_25
  | 26, _ => zokM_26
  | 27, _ => zokM_27
  | 28, _ => zokM_28
  | 29, _ => zokM_29
  | 30, _ => zokM_30
  | 31, _ => zokM_31
  | 32, _ => zokM_32
  | 33, _ => zokM_33
  | 34, _ => zokM_34
  | 35, _ => zokM_35
  | 36, _ => zokM_36
  | 37, _ => zokM_37
  | 38, _ => zokM_38
  | 39, _ => zokM_39
  | 40, _ => zokM_40
  | 41, _ => zokM_41
  | 42, _ => zokM_42
  | 43, _ => zokM_43
  | 44, _ => zokM_44
  | 45, _ => zokM_45
  | 46, _ => zokM_46
  | 47, _ => zokM_47
  | 48, _ => zokM_48
  | 49, _ => zokM_49
  | 50, _ => zokM_50
  | 51, _ => zokM_51
  | 52, _ => zokM_52
  | 53, _ => zokM_53
  | 54, _ => zokM_54
  | 55, _ => zokM_55
  | 56, _ => zokM_56
  | 57, _ => zokM_57
  | 58, _ => zokM_58
  | 59, _ => zokM_59
  | 60, _ => zokM_60
  | 61, _ => zokM_61
  | 62, _ => zokM_62
  | 63, _ => zokM_63
  | 64, _ => zokM_64
  | 65, _ => zokM_65
  | 66, _ => zokM_66
  | 67, _ => zokM_67
  | 68, _ => zokM_68
  | 69, _ => zokM_69
  | 70, _ => zokM_70
  | 71, _ => zokM_71
  | 72, _ => zokM_72
  | 73, _ => zokM_73
  | 74, _ => zokM_74
  | 75, _ => zokM_75
  | 76, _ => zokM_76
  | 77, _ => zokM_77
  | 78, _ => zokM_78
  | 79, _ => zokM_79
  | 80, _ => zokM_80
  | 81, _ => zokM_81
  | 82, _ => zokM_82
  | 83, _ => zokM_83
  | 84, _ => zokM_84
  | 85, _ => zokM_85
  | 86, _ => zokM_86
  | 87, _ => zokM_87
  | 88, _ => zokM_88
  | 89, _ => zokM_89
  | 90, _ => zokM_90
  | 91, _ => zokM_91
  | 92, _ => zokM_92
  | 93, _ => zokM_93
  | 94, _ => zokM_94
  | 95, _ => zokM_95
  | 96, _ => zokM_96
  | 97, _ => zokM_97
  | 98, _ => zokM_98
  | 99, _ => zokM_99
  | 100, _ => zokM_100
  | 101, _ => zokM_101
  | 102, _ => zokM_102
  | 103, _ => zokM_103
  | 104, _ => zokM_104
  | 105, _ => zokM_105
  | 106, _ => zokM_106
  | 107, _ => zokM_107
  | 108, _ => zokM_108
  | 109, _ => zokM_109
  | 110, _ => zokM_110
  | 111, _ => zokM_111
  | 112, _ => zokM_112
  | 113, _ => zokM_113
  | 114, _ => zokM_114
  | 115, _ => zokM_115
  | 116, _ => zokM_116
  | 117, _ => zokM_117
  | 118, _ => zokM_118
  | 119, _ => zokM_119
  | 120, _ => zokM_120
  | 121, _ => zokM_121
  | 122, _ => zokM_122
  | 123, _ => zokM_123
  | 124, _ => zokM_124
  | 125, _ => zokM_125
  | 126, _ => zokM_126
  | 127, _ => zokM_127
  | 128, _ => zokM_128
  | 129, _ => zokM_129
  | 130, _ => zokM_130
  | 131, _ => zokM_131
  | 132, _ => zokM_132
  | 133, _ => zokM_133
  | 134, _ => zokM_134
  | 135, _ => zokM_135
  | 136, _ => zokM_136
  | 137, _ => zokM_137
  | 138, _ => zokM_138
  | 139, _ => zokM_139
  | 140, _ => zokM_140
  | 141, _ => zokM_141
  | 142, _ => zokM_142
  | 143, _ => zokM_143
  | 144, _ => zokM_144
  | 145, _ => zokM_145
  | 146, _ => zokM_146
  | 147, _ => zokM_147
  | 148, _ => zokM_148
  | 149, _ => zokM_149
  | 150, _ => zokM_150
  | 151, _ => zokM_151
  | 152, _ => zokM_152
  | 153, _ => zokM_153
  | 154, _ => zokM_154
  | 155, _ => zokM_155
  | 156, _ => zokM_156
  | 157, _ => zokM_157
  | 158, _ => zokM_158
  | 159, _ => zokM_159
  | 160, _ => zokM_160
  | 161, _ => zokM_161
  | 162, _ => zokM_162
  | 163, _ => zokM_163
  | 164, _ => zokM_164
  | 165, _ => zokM_165
  | 166, _ => zokM_166
  | 167, _ => zokM_167
  | 168, _ => zokM_168
  | 169, _ => zokM_169
  | 170, _ => zokM_170
  | 171, _ => zokM_171
  | 172, _ => zokM_172
  | 173, _ => zokM_173
  | 174, _ => zokM_174
  | 175, _ => zokM_175
  | 176, _ => zokM_176
  | 177, _ => zokM_177
  | 178, _ => zokM_178
  | 179, _ => zokM_179
  | m + 180, h => absurd h (by omega)
end
section
/-! the small machine is sound: what it runs, the machine runs -/
def zTb : List Jvm.Cond := lw_tbl.filter goodWord
theorem zin {k : Nat} {w : Jvm.Cond} (h : zw k = some w) (hg : goodWord w = true) : w ∈ zTb := List.mem_filter.mpr ⟨List.mem_of_getElem? h, hg⟩
theorem zTb_good : GoodIn zTb zTb := fun _ hw => ⟨hw, good_of_word (List.mem_filter.mp hw).2⟩
def zv (ad : Nat → Nat) : Value → Value
  | .ref r => .ref (ad r)
  | v => v
theorem zv_cat (ad : Nat → Nat) (v : Value) : (zv ad v).category = v.category := by cases v <;> rfl
def zce (ad : Nat → Nat) (cA cS : ClassId) (σ : zM) (k : Nat) (e : zE) : va_E := match e with
  | .inl n => .inl (cA, n, .inl (σ k))
  | .inr (.inl (ci, fl)) => .inr (ci, fl.mapIdx (fun j o => match o with | some r => Value.ref (ad r) | none => .int (σ k j)))
  | .inr (.inr rs) => .inl (cS, rs.length, .inr (.inr (.inr (.inr (fun i => (rs[i]?).map ad)))))
def zW (ad : Nat → Nat) (cA cS : ClassId) (σ : zM) : va_W := zLy.mapIdx (fun k e => (ad k, zce ad cA cS σ k e))
abbrev zTy (cA cS : ClassId) : List (ClassId × FieldType) := [(cA, .int), (cS, .object RX0)]
def zNs (U : State) : Prop := ∀ a i x h, Jvm.Cond.methodLinkNest a i x h ∈ lw_tbl → va_Nw (.methodLinkNest a i x h) U
def zOk (p : Program) (R : Room) (s : State) (mm : MethodId) (args : Array Value) (meth : Method) (c : Code) (D : va_G) (cA cS : ClassId) (d m : Nat) : Prop :=
  p.tables.exec = Jvm.exec ∧ c.code = zb m ∧ meth.sig.returnType = zr m ∧ c.maxLocals = zl m ∧ s.vm.findClass (zo m) = some mm.cls ∧ (∀ w ∈ zTb, w.before args s = true) ∧ meth.locks = false ∧ (d ≤ R.frames ∧ 32 * d ≤ R.locals) ∧ va_K D vwCl (zTy cA cS) s ∧ zNs s
def zPo (D : va_G) (ad : Nat → Nat) (cA cS : ClassId) (Q : Option Value → zM → Prop) (A : Nat → Prop) : Array Value → State → Outcome → State → Prop := fun _ st oc t =>
  (∃ (r : Option Value) (σ' : zM), oc = .returned (r.map (zv ad)) ∧ Q r σ' ∧ va_P D vwCl (zW ad cA cS σ') t.heap ∧ va_K D vwCl (zTy cA cS) t ∧ zNs t ∧ va_D A (zW ad cA cS σ')) ∧ va_F A st t
def zlm (ad : Nat → Nat) (lv : List (Nat × Value)) : List (Nat × Value) := lv.map (fun q => (q.1, zv ad q.2))
def zSem (l : Launch) (D : va_G) (ad : Nat → Nat) (cA cS : ClassId) : zT := fun d m i lv st σ Q =>
  ∀ (p : Program) (e : Env) (R : Room) (s : State) (mm : MethodId) (args : Array Value) (below : List Frame) (meth : Method) (c : Code) (A : Nat → Prop) (H : Heap) (locs : List Loc) (ls : Array Slot),
    zOk p R s mm args meth c D cA cS d m → (∀ q, s.heap.size ≤ q → A q) → va_P D vwCl (zW ad cA cS σ) H → va_D A (zW ad cA cS σ) → va_S A s.heap H locs → lv_has ls (zl m) (zlm ad lv) →
    W p l e R s mm args below meth c H locs 0 0 (MQ below (zPo D ad cA cS Q A) args s 0 0 A) (F0 mm (zpc m i) ls (st.map (zv ad)))
theorem zW_get {ad : Nat → Nat} {cA cS : ClassId} {σ : zM} {k : Nat} {e : zE} (h : zLy[k]? = some e) : (zW ad cA cS σ)[k]? = some (ad k, zce ad cA cS σ k e) := by
  simp [zW, List.getElem?_mapIdx, h]
theorem zce_congr {ad : Nat → Nat} {cA cS : ClassId} {σ σ' : zM} {k : Nat} (h : σ' k = σ k) (e : zE) : zce ad cA cS σ' k e = zce ad cA cS σ k e := by
  unfold zce
  rw [h]
theorem zW_set {ad : Nat → Nat} {cA cS : ClassId} {σ σ' : zM} {b : Nat} {e : zE} (hb : zLy[b]? = some e) (ho : ∀ k, k ≠ b → σ' k = σ k) : (zW ad cA cS σ).set b (ad b, zce ad cA cS σ' b e) = zW ad cA cS σ' := by
  refine List.ext_getElem? fun k => ?_
  have hlt : b < zLy.length := (List.getElem?_eq_some_iff.mp hb).1
  rw [List.getElem?_set]
  by_cases hk : b = k
  · subst hk
    rw [if_pos rfl, if_pos (by simpa [zW] using hlt), zW_get hb]
  · rw [if_neg hk]
    simp only [zW, List.getElem?_mapIdx]
    cases zLy[k]? with
    | none => rfl
    | some e' =>
      simp only [Option.map_some]
      rw [zce_congr (ho k (Ne.symm hk))]
theorem zu_ne {σ : zM} {b j : Nat} {x : Int32} {k : Nat} (h : k ≠ b) : zu σ b j x k = σ k := by
  funext q
  unfold zu
  rw [if_neg h]
theorem zu_eq {σ : zM} {b j : Nat} {x : Int32} : zu σ b j x b = upd (σ b) j x := by
  funext q
  unfold zu
  rw [if_pos rfl]
theorem zcp_ne {σ : zM} {a b sp dp n : Nat} {k : Nat} (h : k ≠ b) : zcp σ a b sp dp n k = σ k := by
  funext q
  unfold zcp
  rw [if_neg h]
theorem zcp_eq {σ : zM} {a b sp dp n : Nat} : zcp σ a b sp dp n b = va_cpy (σ a) (σ b) sp dp n := by
  funext q
  unfold zcp
  rw [if_pos rfl]
theorem zg_mem : ∀ {lv : List (Nat × Value)} {k : Nat} {v : Value}, zg lv k = some v → (k, v) ∈ lv
  | [], _, _, h => by cases h
  | q :: r, k, v, h => by
    unfold zg at h
    cases hq : Nat.beq q.1 k with
    | true =>
      rw [hq] at h
      have e1 : q.1 = k := Nat.eq_of_beq_eq_true hq
      have e2 : q.2 = v := Option.some.inj h
      rw [← e1, ← e2]
      exact List.mem_cons_self
    | false =>
      rw [hq] at h
      exact List.mem_cons_of_mem _ (zg_mem h)
theorem zlv {ad : Nat → Nat} {lv : List (Nat × Value)} {k n : Nat} {v : Value} {ls : Array Slot} (hg : zg lv k = some v) (h : lv_has ls n (zlm ad lv)) : ls[k]? = some (.val (zv ad v)) :=
  h.2.2 (k, zv ad v) (List.mem_map.mpr ⟨(k, v), zg_mem hg, rfl⟩)
theorem zs_map (ad : Nat → Nat) (lv : List (Nat × Value)) (k : Nat) (v : Value) : (k, zv ad v) :: (zlm ad lv).filter (fun q => !(q.1 == k) && !(q.1 + 1 == k && q.2.category == 2)) = zlm ad (zs lv k v) := by
  unfold zs zlm
  rw [List.map_cons, List.filter_map]
  congr 2
  refine List.filter_congr fun q _ => ?_
  simp [zv_cat]
theorem zcat_map (ad : Nat → Nat) (l : List Value) : ((l.map (zv ad)).map fun v => v.category).sum = zcat l := by
  unfold zcat
  rw [List.map_map]
  congr 1
  exact List.map_congr_left fun v _ => zv_cat ad v
theorem zsl_map (ad : Nat → Nat) (l : List Value) : (lg_sl (l.map (zv ad))).length = (lg_sl l).length := by
  unfold lg_sl
  induction l with
  | nil => rfl
  | cons v r ih =>
    simp only [List.map_cons, List.flatMap_cons, List.length_append, ih, zv_cat]
    cases v <;> rfl
theorem zargs_map (ad : Nat → Nat) : ∀ (l : List Value) (k : Nat), lv_args k (l.map (zv ad)) = zlm ad (lv_args k l)
  | [], _ => rfl
  | v :: r, k => by
    simp only [List.map_cons, lv_args, zlm, zv_cat, zargs_map ad r]
theorem zrow {m i : Nat} {q : zR} (h : (zP m)[i]? = some q) : m < 180 ∧ zok m i q = true := by
  have hm : m < 180 := by
    rcases Nat.lt_or_ge m 180 with h1 | h1
    · exact h1
    · have h2 : zP m = [] := by
        unfold zP
        rw [List.getD_eq_getElem?_getD, List.getElem?_eq_none (show zPl.length ≤ m from h1)]
        rfl
      rw [h2] at h
      cases h
  refine ⟨hm, ?_⟩
  have h1 := zokM_all m hm
  unfold zokM at h1
  have h2 := List.all_eq_true.mp h1 i (List.mem_range.mpr (List.getElem?_eq_some_iff.mp h).1)
  rw [h] at h2
  exact h2
theorem zokN_sp {m : Nat} (hm : m < 180) : Jvm.Cond.code (zy m) (zb m) (zl m) (zr m) ∈ zTb ∧ Jvm.Cond.initialized (zo m) ∈ zTb ∧ plainFor (zy m) = true ∧ ((zo m) ≠ "java/lang/invoke/MethodHandle" ∧ (zo m) ≠ "java/lang/invoke/VarHandle" ∧ (parseMethodDescriptor (zy m).desc).map (fun d => d.parameters.length) = some (znp m)) ∧ zl m ≤ 13 ∧ (zci m < 5 → (vwCl[zci m]?).map (fun q => q.1) = some (zo m)) := by
  have h := zokN_all m hm
  unfold zokN at h
  simp only [Bool.and_eq_true, Bool.or_eq_true, decide_eq_true_eq, beq_iff_eq] at h
  obtain ⟨⟨⟨⟨⟨h1, h2⟩, h3⟩, h4⟩, h5⟩, h6⟩ := h
  refine ⟨zin h1 rfl, zin h2 rfl, h3, h4, h5, fun hc => ?_⟩
  rcases h6 with h6 | h6
  · omega
  · exact h6
theorem zcl_sp : ∀ (ci : Nat) (q : vw_C), vwCl[ci]? = some q → (∀ w ∈ u_ws q.1 q.2.1 q.2.2, w ∈ zTb) ∧ (∃ ty : Nat → FieldType, ∀ k, k < q.2.2 → parseFieldDescriptor (q.2.1 k).2.2.1 = some (ty k)) ∧ (∀ a, a < q.2.2 → ∀ b, b < q.2.2 → a ≠ b → (q.2.1 a).2.1 ≠ (q.2.1 b).2.1)
  | 0, q, h => by cases h; exact ⟨by decide +kernel, ⟨tyX0, tyX0_ok⟩, nmX0⟩
  | 1, q, h => by cases h; exact ⟨by decide +kernel, ⟨tyX1, tyX1_ok⟩, nmX1⟩
  | 2, q, h => by cases h; exact ⟨by decide +kernel, ⟨tyX2, tyX2_ok⟩, nmX2⟩
  | 3, q, h => by cases h; exact ⟨by decide +kernel, ⟨tyX3, tyX3_ok⟩, nmX3⟩
  | 4, q, h => by cases h; exact ⟨by decide +kernel, ⟨tyX4, tyX4_ok⟩, nmX4⟩
  | n + 5, q, h => by simp [vwCl] at h
theorem zpc0 : ∀ m, m < 180 → zpc m 0 = 0 := by decide +kernel
/-- a method's contract out of what the small machine says of its body -/
theorem zofW {l : Launch} {y : MethodName} {ws ws' : List Jvm.Cond} {rm : Room} {Pc : Array Value → State → Prop} {Qc : Array Value → State → Outcome → State → Prop} {mc ms : Nat} {free : Addr → Prop} {cc : ByteArray} {maxL : Nat} {ret : Option FieldType}
    (hy : plainFor y = true) (hw : ws = Jvm.Cond.code y cc maxL ret :: ws')
    (body : ∀ p e s m args below meth c s₁, BodyLoose p l y (headSpec ws rm) cc maxL ret e s m args below meth c s₁ → c.maxLocals = maxL → Pc args s →
      W p l e (headSpec ws rm).room s m args below meth c s.heap [] 0 0 (MQ below Qc args s mc ms free) (entryFrame m args maxL)) : Met l y ws rm Pc Qc mc ms free := by
  refine MetFree.of_bodySF (code := cc) (maxLocals := maxL) (ret := ret) hy ?_ ?_
  · intro args s m h hn
    obtain ⟨meth, c, h1, h2, h3, h4, h5, h6, -, -⟩ := Cond.code_spec hn (atoms_spec (ws := ws) h _ (by rw [hw]; exact List.mem_cons_self))
    exact ⟨meth, c, h1, h2, h3, h4, h5, h6⟩
  · intro p e s m args below meth c s₁ B hml hP _
    have hh0 : s₁.heap = s.heap := by rw [B.state]; rfl
    obtain ⟨t, a1, o, b1, b2, b3⟩ := body p e s m args below meth c s₁ B hml hP s₁ hh0 (Stand.of_body B)
    exact ⟨t, o, a1, b1, b2, ⟨b3.1, b3.2⟩⟩
def zws (m : Nat) : List Jvm.Cond := Jvm.Cond.code (zy m) (zb m) (zl m) (zr m) :: zTb
def zrm (d : Nat) : Room := { frames := d, cells := 0, slots := 0, locals := 32 * d }
def zPr (D : va_G) (ad : Nat → Nat) (cA cS : ClassId) (σ : zM) (sz : Nat) (U : State) : Prop := U.heap.size = sz ∧ va_P D vwCl (zW ad cA cS σ) U.heap ∧ va_K D vwCl (zTy cA cS) U ∧ zNs U ∧ va_D (fun _ => True) (zW ad cA cS σ)
theorem zMet {l : Launch} {D : va_G} {ad : Nat → Nat} {cA cS : ClassId} {d m : Nat} {av : List Value} {σ : zM} {Q : Option Value → zM → Prop} (hm : m < 180) (hav : (lg_sl av).length ≤ zl m) (h : zSem l D ad cA cS d m 0 (lv_args 0 av) [] σ Q) (sz : Nat) :
    Met l (zy m) (zws m) (zrm d) (va_Pc (av.map (zv ad)) (zPr D ad cA cS σ sz)) (zPo D ad cA cS Q (va_A (zW ad cA cS σ) sz)) 0 0 (va_A (zW ad cA cS σ) sz) := by
  obtain ⟨n1, n2, n3, n4, n5, n6⟩ := zokN_sp hm
  refine zofW (cc := zb m) (maxL := zl m) (ret := zr m) n3 rfl ?_
  intro p e s mm args below meth c s₁ B hml hv
  obtain ⟨rfl, hsz, hP, hK, hN, hD0⟩ := hv
  have hts : ∀ w ∈ zTb, w.before (av.map (zv ad)).toArray s = true := fun w hw => atoms_spec (ws := zws m) B.pre w (List.mem_cons_of_mem _ hw)
  subst hsz
  have hl := lv_entry (av.map (zv ad)) (n := zl m) (by rw [zsl_map]; exact hav)
  rw [lg_entry_eq]
  rw [zargs_map] at hl
  have k := h p e (zrm d) s mm (av.map (zv ad)).toArray below meth c (va_A (zW ad cA cS σ) s.heap.size) s.heap [] _ ⟨B.exec, B.bytes, B.returns, hml, findClass_of_methodNamed B.named, hts, B.notSynchronized, ⟨Nat.le_refl _, Nat.le_refl _⟩, hK, hN⟩ (fun q hq => Or.inr hq) hP hD0.self va_S.rf hl
  rw [zpc0 m hm] at k
  exact k
/-- behind a call -/
theorem zgo {p : Program} {l : Launch} {e : Env} {R : Room} {s : State} {m : MethodId} {args : Array Value} {below : List Frame} {meth : Method} {c : Code} {H : Heap} {locs : List Loc} {Q : State → Prop} {D : va_G} {ad : Nat → Nat} {cA cS : ClassId} {Q' : Option Value → zM → Prop} {A A1 : Nat → Prop} {pc : Nat} {ls : Array Slot} {st0 rest : List Value} {a : Array Value} {H0 : Heap}
    (hr : va_Run p l e R s m args below meth c H locs 0 0 0 0 (F0 m pc ls st0) rest (zPo D ad cA cS Q' A1 a) A1) (hS : va_S A H0 H locs) (hA : ∀ q, A1 q → A q)
    (kk : ∀ (r : Option Value) (σ' : zM) (H1 : Heap) (locs1 : List Loc), Q' r σ' → va_P D vwCl (zW ad cA cS σ') H1 → va_D A (zW ad cA cS σ') → va_S A H0 H1 locs1 → W p l e R s m args below meth c H1 locs1 0 0 Q (F0 m (pc + 3) ls ((r.map (zv ad)).toList ++ rest))) : W p l e R s m args below meth c H locs 0 0 Q (F0 m pc ls st0) := by
  intro T hT X
  obtain ⟨v, st₀, t, T', L, h0, X', hL, e1, e2, ⟨⟨r, σ', hv, hq, hP1, hK1, hN1, hD1⟩, hz, hk⟩, st⟩ := hr T hT X
  have hv' : v = r.map (zv ad) := by cases hv; rfl
  subst hv'
  rw [h0] at hz hk
  obtain ⟨t2, a1, b1⟩ := kk r σ' T'.heap (locs ++ L) hq (by rw [e1]; exact hP1) (hD1.weaken (fun _ q _ h => hA q.1 h))
    ⟨Nat.le_trans hS.1 (by rw [e1]; exact hz), fun q h1 h2 => by rw [e1, hk q (Nat.lt_of_lt_of_le h1 hS.1) (fun z => h2 (hA q z))]; exact hS.2.1 q h1 h2, fun q hq => by
      rcases List.mem_append.mp hq with h | h
      · exact hS.2.2 q h
      · exact hA _ (hL q h)⟩ T' rfl X'
  exact ⟨t2, st t2 a1, b1⟩
theorem zblind {D : va_G} {ad : Nat → Nat} {cA cS : ClassId} {σ : zM} {sz : Nat} {av : List Value} : FrameBlind (va_Pc av (zPr D ad cA cS σ sz)) := fun a U g mk q => by
  obtain ⟨q0, q1, qP, qK, qN, qD⟩ := q
  exact ⟨q0, q1, qP, va_K.moved (u := U) (U := U.calling g mk a) (Vm.Alike.refl U.vm) qK, fun a i x h hh => va_Nw.same (U := U.calling g mk _) rfl rfl (qN a i x h hh), qD⟩
theorem zfree {D : va_G} {ad : Nat → Nat} {cA cS : ClassId} {σ : zM} {A : Nat → Prop} {H0 H : Heap} {locs : List Loc} (hD : va_D A (zW ad cA cS σ)) (hS : va_S A H0 H locs) (hA : ∀ q, H0.size ≤ q → A q) : ∀ q, va_A (zW ad cA cS σ) H.size q → A q := by
  intro q h
  rcases h with ⟨k, e, h⟩ | h
  · exact hD.2 k (q, e) h
  · exact hA q (Nat.le_trans hS.1 h)
theorem zpre {D : va_G} {ad : Nat → Nat} {cA cS : ClassId} {σ : zM} {s U : State} {H : Heap} {A : Nat → Prop} {av : List Value} (hP : va_P D vwCl (zW ad cA cS σ) H) (hD : va_D A (zW ad cA cS σ)) (hK : va_K D vwCl (zTy cA cS) s) (hN : zNs s) (hU : U.heap = H) (hW : s.WarmedH U.vm) : va_Pc av (zPr D ad cA cS σ H.size) av.toArray U :=
  ⟨rfl, by rw [hU], by rw [hU]; exact hP, va_K.moved hW.alike hK, fun a i x h hh => va_Nw.warmM hW (hN a i x h hh), hD.weaken (fun _ _ _ _ => trivial)⟩
set_option maxHeartbeats 8000000 in
set_option maxRecDepth 100000 in
theorem zSound (l : Launch) (D : va_G) (ad : Nat → Nat) (cA cS : ClassId) : zCl (zSem l D ad cA cS) := by
  intro d m i lv st σ Q h
  unfold zst at h
  split at h
  rotate_left
  · exact h.elim
  rename_i pc I L hrow
  intro p e R s mm args below meth c A H locs ls hO hA hP hD hS hlv
  obtain ⟨hm180, hok⟩ := zrow hrow
  simp only [zok, Bool.and_eq_true, Bool.or_eq_true, Bool.not_eq_true', decide_eq_true_eq] at hok
  obtain ⟨⟨hd, hn⟩, hl⟩ := hok
  have hpc : zpc m i = pc := by simp [zpc, hrow]
  rw [hpc]
  obtain ⟨hx, hb, hr, hml, hown, hts, hlocks, ⟨hRf0, hRl0⟩, hK, hNs⟩ := id hO
  cases I with
  | iconst n =>
    have nx : zpc m (i + 1) = pc + 1 := by simpa [zfall, zn] using hn
    exact lv_iconst hx hb hd rfl (by have k := h p e R s mm args below meth c A H locs ls hO hA hP hD hS hlv; rw [nx] at k; exact k)
  | bipush n =>
    have nx : zpc m (i + 1) = pc + 2 := by simpa [zfall, zn] using hn
    exact lv_bipush hx hb hd rfl (by have k := h p e R s mm args below meth c A H locs ls hO hA hP hD hS hlv; rw [nx] at k; exact k)
  | sipush n =>
    have nx : zpc m (i + 1) = pc + 3 := by simpa [zfall, zn] using hn
    exact lv_sipush hx hb hd rfl (by have k := h p e R s mm args below meth c A H locs ls hO hA hP hD hS hlv; rw [nx] at k; exact k)
  | lconst n =>
    have nx : zpc m (i + 1) = pc + 1 := by simpa [zfall, zn] using hn
    exact lv_lconst hx hb hd rfl (by have k := h p e R s mm args below meth c A H locs ls hO hA hP hD hS hlv; rw [nx] at k; exact k)
  | ldc k =>
    have nx : zpc m (i + 1) = pc + 2 := by simpa [zfall, zn] using hn
    exact lv_ldc hx hb hown (hts _ (zin (by simpa [zlk] using hl) rfl)) hd (by have k := h p e R s mm args below meth c A H locs ls hO hA hP hD hS hlv; rw [nx] at k; exact k)
  | ldc_w k =>
    have nx : zpc m (i + 1) = pc + 3 := by simpa [zfall, zn] using hn
    exact lv_ldcw hx hb hown (hts _ (zin (by simpa [zlk] using hl) rfl)) hd (by have k := h p e R s mm args below meth c A H locs ls hO hA hP hD hS hlv; rw [nx] at k; exact k)
  | ldc2_w k =>
    have nx : zpc m (i + 1) = pc + 3 := by simpa [zfall, zn] using hn
    exact lv_ldc2 hx hb hown (hts _ (zin (by simpa [zlk] using hl) rfl)) hd (by have k := h p e R s mm args below meth c A H locs ls hO hA hP hD hS hlv; rw [nx] at k; exact k)
  | aconst_null =>
    have nx : zpc m (i + 1) = pc + 1 := by simpa [zfall, zn] using hn
    exact lv_null hx hb hd (by have k := h p e R s mm args below meth c A H locs ls hO hA hP hD hS hlv; rw [nx] at k; exact k)
  | iload k =>
    have nx : zpc m (i + 1) = pc + 2 := by simpa [zfall, zn] using hn
    obtain ⟨x, hg, h⟩ := h
    exact lv_iload hx hb hd (zlv hg hlv) (by have k := h p e R s mm args below meth c A H locs ls hO hA hP hD hS hlv; rw [nx] at k; exact k)
  | iload_n k =>
    have nx : zpc m (i + 1) = pc + 1 := by simpa [zfall, zn] using hn
    obtain ⟨x, hg, h⟩ := h
    exact lv_iload_n hx hb hd rfl (zlv hg hlv) (by have k := h p e R s mm args below meth c A H locs ls hO hA hP hD hS hlv; rw [nx] at k; exact k)
  | lload k =>
    have nx : zpc m (i + 1) = pc + 2 := by simpa [zfall, zn] using hn
    obtain ⟨x, hg, h⟩ := h
    exact lv_lload hx hb hd (zlv hg hlv) (by have k := h p e R s mm args below meth c A H locs ls hO hA hP hD hS hlv; rw [nx] at k; exact k)
  | lload_n k =>
    have nx : zpc m (i + 1) = pc + 1 := by simpa [zfall, zn] using hn
    obtain ⟨x, hg, h⟩ := h
    exact lv_lload_n hx hb hd rfl (zlv hg hlv) (by have k := h p e R s mm args below meth c A H locs ls hO hA hP hD hS hlv; rw [nx] at k; exact k)
  | aload k =>
    have nx : zpc m (i + 1) = pc + 2 := by simpa [zfall, zn] using hn
    obtain ⟨v, hg, hv, h⟩ := h
    rcases hv with rfl | ⟨b, rfl⟩
    · exact lv_aloadN hx hb hd (zlv hg hlv) (by have k := h p e R s mm args below meth c A H locs ls hO hA hP hD hS hlv; rw [nx] at k; exact k)
    · exact lv_aload hx hb hd (zlv hg hlv) (by have k := h p e R s mm args below meth c A H locs ls hO hA hP hD hS hlv; rw [nx] at k; exact k)
  | aload_n k =>
    have nx : zpc m (i + 1) = pc + 1 := by simpa [zfall, zn] using hn
    obtain ⟨v, hg, hv, h⟩ := h
    rcases hv with rfl | ⟨b, rfl⟩
    · exact lv_aload_nN hx hb hd rfl (zlv hg hlv) (by have k := h p e R s mm args below meth c A H locs ls hO hA hP hD hS hlv; rw [nx] at k; exact k)
    · exact lv_aload_n hx hb hd rfl (zlv hg hlv) (by have k := h p e R s mm args below meth c A H locs ls hO hA hP hD hS hlv; rw [nx] at k; exact k)
  | istore k =>
    have nx : zpc m (i + 1) = pc + 2 := by simpa [zfall, zn] using hn
    obtain ⟨x, r, rfl, h⟩ := zk1_e h
    exact lv_istore hx hb hd hlv (by simpa [zlk] using hl) (zs_map ad lv _ (.int x)) (fun ls' hl' => by have k := h p e R s mm args below meth c A H locs ls' hO hA hP hD hS hl'; rw [nx] at k; exact k)
  | istore_n k =>
    have nx : zpc m (i + 1) = pc + 1 := by simpa [zfall, zn] using hn
    obtain ⟨x, r, rfl, h⟩ := zk1_e h
    exact lv_istore_n hx hb hd rfl hlv (by simpa [zlk] using hl) (zs_map ad lv _ (.int x)) (fun ls' hl' => by have k := h p e R s mm args below meth c A H locs ls' hO hA hP hD hS hl'; rw [nx] at k; exact k)
  | astore k =>
    have nx : zpc m (i + 1) = pc + 2 := by simpa [zfall, zn] using hn
    obtain ⟨v, r, rfl, hv, h⟩ := zkv_e h
    rcases hv with rfl | ⟨b, rfl⟩
    · exact lv_astoreN hx hb hd hlv (by simpa [zlk] using hl) (zs_map ad lv _ .null) (fun ls' hl' => by have k := h p e R s mm args below meth c A H locs ls' hO hA hP hD hS hl'; rw [nx] at k; exact k)
    · exact lv_astore hx hb hd hlv (by simpa [zlk] using hl) (zs_map ad lv _ (.ref b)) (fun ls' hl' => by have k := h p e R s mm args below meth c A H locs ls' hO hA hP hD hS hl'; rw [nx] at k; exact k)
  | astore_n k =>
    have nx : zpc m (i + 1) = pc + 1 := by simpa [zfall, zn] using hn
    obtain ⟨v, r, rfl, hv, h⟩ := zkv_e h
    rcases hv with rfl | ⟨b, rfl⟩
    · exact lv_astore_nN hx hb hd rfl hlv (by simpa [zlk] using hl) (zs_map ad lv _ .null) (fun ls' hl' => by have k := h p e R s mm args below meth c A H locs ls' hO hA hP hD hS hl'; rw [nx] at k; exact k)
    · exact lv_astore_n hx hb hd rfl hlv (by simpa [zlk] using hl) (zs_map ad lv _ (.ref b)) (fun ls' hl' => by have k := h p e R s mm args below meth c A H locs ls' hO hA hP hD hS hl'; rw [nx] at k; exact k)
  | iinc k n =>
    have nx : zpc m (i + 1) = pc + 3 := by simpa [zfall, zn] using hn
    obtain ⟨x, hg, h⟩ := h
    obtain ⟨q, hq⟩ := List.getElem?_of_mem (List.mem_map.mpr ⟨(k, .int x), zg_mem hg, rfl⟩ : (k, zv ad (.int x)) ∈ zlm ad lv)
    exact lv_iinc (k := q) (v := x + Int32.ofInt n) hx hb hd hlv hq rfl (by simpa [zlk] using hl) (zs_map ad lv _ (.int (x + Int32.ofInt n))) (fun ls' hl' => by have k := h p e R s mm args below meth c A H locs ls' hO hA hP hD hS hl'; rw [nx] at k; exact k)
  | iadd =>
    have nx : zpc m (i + 1) = pc + 1 := by simpa [zfall, zn] using hn
    obtain ⟨x, y, r, rfl, h⟩ := zk2_e h
    exact lv_iadd hx hb hd (by have k := h p e R s mm args below meth c A H locs ls hO hA hP hD hS hlv; rw [nx] at k; exact k)
  | isub =>
    have nx : zpc m (i + 1) = pc + 1 := by simpa [zfall, zn] using hn
    obtain ⟨x, y, r, rfl, h⟩ := zk2_e h
    exact lv_isub hx hb hd (by have k := h p e R s mm args below meth c A H locs ls hO hA hP hD hS hlv; rw [nx] at k; exact k)
  | imul =>
    have nx : zpc m (i + 1) = pc + 1 := by simpa [zfall, zn] using hn
    obtain ⟨x, y, r, rfl, h⟩ := zk2_e h
    exact lv_imul hx hb hd (by have k := h p e R s mm args below meth c A H locs ls hO hA hP hD hS hlv; rw [nx] at k; exact k)
  | iand =>
    have nx : zpc m (i + 1) = pc + 1 := by simpa [zfall, zn] using hn
    obtain ⟨x, y, r, rfl, h⟩ := zk2_e h
    exact lv_iand hx hb hd (by have k := h p e R s mm args below meth c A H locs ls hO hA hP hD hS hlv; rw [nx] at k; exact k)
  | ior =>
    have nx : zpc m (i + 1) = pc + 1 := by simpa [zfall, zn] using hn
    obtain ⟨x, y, r, rfl, h⟩ := zk2_e h
    exact lv_ior hx hb hd (by have k := h p e R s mm args below meth c A H locs ls hO hA hP hD hS hlv; rw [nx] at k; exact k)
  | ixor =>
    have nx : zpc m (i + 1) = pc + 1 := by simpa [zfall, zn] using hn
    obtain ⟨x, y, r, rfl, h⟩ := zk2_e h
    exact lv_ixor hx hb hd (by have k := h p e R s mm args below meth c A H locs ls hO hA hP hD hS hlv; rw [nx] at k; exact k)
  | ishl =>
    have nx : zpc m (i + 1) = pc + 1 := by simpa [zfall, zn] using hn
    obtain ⟨x, y, r, rfl, h⟩ := zk2_e h
    exact lv_ishl hx hb hd (by have k := h p e R s mm args below meth c A H locs ls hO hA hP hD hS hlv; rw [nx] at k; exact k)
  | ishr =>
    have nx : zpc m (i + 1) = pc + 1 := by simpa [zfall, zn] using hn
    obtain ⟨x, y, r, rfl, h⟩ := zk2_e h
    exact lv_ishr hx hb hd (by have k := h p e R s mm args below meth c A H locs ls hO hA hP hD hS hlv; rw [nx] at k; exact k)
  | idiv =>
    have nx : zpc m (i + 1) = pc + 1 := by simpa [zfall, zn] using hn
    obtain ⟨x, y, r, rfl, h0, h⟩ := zk2_e h
    exact lv_idiv hx hb hd h0 (by have k := h p e R s mm args below meth c A H locs ls hO hA hP hD hS hlv; rw [nx] at k; exact k)
  | irem =>
    have nx : zpc m (i + 1) = pc + 1 := by simpa [zfall, zn] using hn
    obtain ⟨x, y, r, rfl, h0, h⟩ := zk2_e h
    exact lv_irem hx hb hd h0 (by have k := h p e R s mm args below meth c A H locs ls hO hA hP hD hS hlv; rw [nx] at k; exact k)
  | iushr =>
    have nx : zpc m (i + 1) = pc + 1 := by simpa [zfall, zn] using hn
    obtain ⟨x, y, r, rfl, h⟩ := zk2_e h
    exact lv_iushr hx hb hd rfl (by have k := h p e R s mm args below meth c A H locs ls hO hA hP hD hS hlv; rw [nx] at k; exact k)
  | ineg =>
    have nx : zpc m (i + 1) = pc + 1 := by simpa [zfall, zn] using hn
    obtain ⟨x, r, rfl, h⟩ := zk1_e h
    exact lv_ineg hx hb hd (by have k := h p e R s mm args below meth c A H locs ls hO hA hP hD hS hlv; rw [nx] at k; exact k)
  | i2l =>
    have nx : zpc m (i + 1) = pc + 1 := by simpa [zfall, zn] using hn
    obtain ⟨x, r, rfl, h⟩ := zk1_e h
    exact lv_i2l hx hb hd rfl (by have k := h p e R s mm args below meth c A H locs ls hO hA hP hD hS hlv; rw [nx] at k; exact k)
  | i2b =>
    have nx : zpc m (i + 1) = pc + 1 := by simpa [zfall, zn] using hn
    obtain ⟨x, r, rfl, h⟩ := zk1_e h
    exact lv_i2b hx hb hd rfl (by have k := h p e R s mm args below meth c A H locs ls hO hA hP hD hS hlv; rw [nx] at k; exact k)
  | i2s =>
    have nx : zpc m (i + 1) = pc + 1 := by simpa [zfall, zn] using hn
    obtain ⟨x, r, rfl, h⟩ := zk1_e h
    exact lv_i2s hx hb hd rfl (by have k := h p e R s mm args below meth c A H locs ls hO hA hP hD hS hlv; rw [nx] at k; exact k)
  | l2i =>
    have nx : zpc m (i + 1) = pc + 1 := by simpa [zfall, zn] using hn
    obtain ⟨x, r, rfl, h⟩ := zk1l_e h
    exact lv_l2i hx hb hd rfl (by have k := h p e R s mm args below meth c A H locs ls hO hA hP hD hS hlv; rw [nx] at k; exact k)
  | ladd =>
    have nx : zpc m (i + 1) = pc + 1 := by simpa [zfall, zn] using hn
    obtain ⟨x, y, r, rfl, h⟩ := zk2l_e h
    exact lv_ladd hx hb hd (by have k := h p e R s mm args below meth c A H locs ls hO hA hP hD hS hlv; rw [nx] at k; exact k)
  | lmul =>
    have nx : zpc m (i + 1) = pc + 1 := by simpa [zfall, zn] using hn
    obtain ⟨x, y, r, rfl, h⟩ := zk2l_e h
    exact lv_lmul hx hb hd (by have k := h p e R s mm args below meth c A H locs ls hO hA hP hD hS hlv; rw [nx] at k; exact k)
  | land =>
    have nx : zpc m (i + 1) = pc + 1 := by simpa [zfall, zn] using hn
    obtain ⟨x, y, r, rfl, h⟩ := zk2l_e h
    exact lv_land hx hb hd (by have k := h p e R s mm args below meth c A H locs ls hO hA hP hD hS hlv; rw [nx] at k; exact k)
  | lor =>
    have nx : zpc m (i + 1) = pc + 1 := by simpa [zfall, zn] using hn
    obtain ⟨x, y, r, rfl, h⟩ := zk2l_e h
    exact lv_lor hx hb hd (by have k := h p e R s mm args below meth c A H locs ls hO hA hP hD hS hlv; rw [nx] at k; exact k)
  | lcmp =>
    have nx : zpc m (i + 1) = pc + 1 := by simpa [zfall, zn] using hn
    obtain ⟨x, y, r, rfl, h⟩ := zk2l_e h
    exact W.lcmp hx hb hd (by have k := h p e R s mm args below meth c A H locs ls hO hA hP hD hS hlv; rw [nx] at k; exact k)
  | lshl =>
    have nx : zpc m (i + 1) = pc + 1 := by simpa [zfall, zn] using hn
    obtain ⟨x, y, r, rfl, h⟩ := zkil_e h
    exact lv_lshl hx hb hd rfl (by have k := h p e R s mm args below meth c A H locs ls hO hA hP hD hS hlv; rw [nx] at k; exact k)
  | lshr =>
    have nx : zpc m (i + 1) = pc + 1 := by simpa [zfall, zn] using hn
    obtain ⟨x, y, r, rfl, h⟩ := zkil_e h
    exact lv_lshr hx hb hd rfl (by have k := h p e R s mm args below meth c A H locs ls hO hA hP hD hS hlv; rw [nx] at k; exact k)
  | lushr =>
    have nx : zpc m (i + 1) = pc + 1 := by simpa [zfall, zn] using hn
    obtain ⟨x, y, r, rfl, h⟩ := zkil_e h
    exact lv_lushr hx hb hd rfl (by have k := h p e R s mm args below meth c A H locs ls hO hA hP hD hS hlv; rw [nx] at k; exact k)
  | dup =>
    have nx : zpc m (i + 1) = pc + 1 := by simpa [zfall, zn] using hn
    obtain ⟨v, r, rfl, hc, h⟩ := zkv_e h
    exact lv_dup hx hb hd (by rw [zv_cat]; exact hc) (by have k := h p e R s mm args below meth c A H locs ls hO hA hP hD hS hlv; rw [nx] at k; exact k)
  | dup2 =>
    have nx : zpc m (i + 1) = pc + 1 := by simpa [zfall, zn] using hn
    obtain ⟨v, r, rfl, h⟩ := zkv_e h
    obtain ⟨w, q, rfl, hc, hc2, h⟩ := zkv_e h
    exact lv_dup2_11 hx hb hd (by rw [zv_cat]; exact hc) (by rw [zv_cat]; exact hc2) (by have k := h p e R s mm args below meth c A H locs ls hO hA hP hD hS hlv; rw [nx] at k; exact k)
  | pop =>
    have nx : zpc m (i + 1) = pc + 1 := by simpa [zfall, zn] using hn
    obtain ⟨v, r, rfl, hc, h⟩ := zkv_e h
    exact lv_pop hx hb hd (by rw [zv_cat]; exact hc) (by have k := h p e R s mm args below meth c A H locs ls hO hA hP hD hS hlv; rw [nx] at k; exact k)
  | goto off =>
    have ht : (pc : Int) + off = (zpc m (zL L 0) : Int) := by simpa [zlk] using hl
    exact lv_goto hx hb hd ht (h p e R s mm args below meth c A H locs ls hO hA hP hD hS hlv)
  | ifCond cd off =>
    have nx : zpc m (i + 1) = pc + 3 := by simpa [zfall, zn] using hn
    have ht : (pc : Int) + off = (zpc m (zL L 0) : Int) := by simpa [zlk] using hl
    obtain ⟨x, r, rfl, h⟩ := zk1_e h
    cases cd with
    | eq => exact lv_if_eq hx hb hd ht (fun hc => h.1 hc p e R s mm args below meth c A H locs ls hO hA hP hD hS hlv) (fun hc => by have k := h.2 hc p e R s mm args below meth c A H locs ls hO hA hP hD hS hlv; rw [nx] at k; exact k)
    | ne => exact lv_if_ne hx hb hd ht (fun hc => h.1 hc p e R s mm args below meth c A H locs ls hO hA hP hD hS hlv) (fun hc => by have k := h.2 (fun q => q hc) p e R s mm args below meth c A H locs ls hO hA hP hD hS hlv; rw [nx] at k; exact k)
    | lt => exact lv_if_lt hx hb hd ht (fun hc => h.1 hc p e R s mm args below meth c A H locs ls hO hA hP hD hS hlv) (fun hc => by have k := h.2 hc p e R s mm args below meth c A H locs ls hO hA hP hD hS hlv; rw [nx] at k; exact k)
    | ge => exact lv_if_ge hx hb hd ht (fun hc => h.1 hc p e R s mm args below meth c A H locs ls hO hA hP hD hS hlv) (fun hc => by have k := h.2 hc p e R s mm args below meth c A H locs ls hO hA hP hD hS hlv; rw [nx] at k; exact k)
    | gt => exact lv_if_gt hx hb hd ht (fun hc => h.1 hc p e R s mm args below meth c A H locs ls hO hA hP hD hS hlv) (fun hc => by have k := h.2 hc p e R s mm args below meth c A H locs ls hO hA hP hD hS hlv; rw [nx] at k; exact k)
    | le => exact lv_if_le hx hb hd ht (fun hc => h.1 hc p e R s mm args below meth c A H locs ls hO hA hP hD hS hlv) (fun hc => by have k := h.2 hc p e R s mm args below meth c A H locs ls hO hA hP hD hS hlv; rw [nx] at k; exact k)
  | if_icmp cd off =>
    have nx : zpc m (i + 1) = pc + 3 := by simpa [zfall, zn] using hn
    have ht : (pc : Int) + off = (zpc m (zL L 0) : Int) := by simpa [zlk] using hl
    obtain ⟨x, y, r, rfl, h⟩ := zk2_e h
    cases cd with
    | eq => exact lv_icmp_eq hx hb hd ht (fun hc => h.1 hc p e R s mm args below meth c A H locs ls hO hA hP hD hS hlv) (fun hc => by have k := h.2 hc p e R s mm args below meth c A H locs ls hO hA hP hD hS hlv; rw [nx] at k; exact k)
    | ne => exact lv_icmp_ne hx hb hd ht (fun hc => h.1 hc p e R s mm args below meth c A H locs ls hO hA hP hD hS hlv) (fun hc => by have k := h.2 (fun q => q hc) p e R s mm args below meth c A H locs ls hO hA hP hD hS hlv; rw [nx] at k; exact k)
    | lt => exact lv_icmp_lt hx hb hd ht (fun hc => h.1 hc p e R s mm args below meth c A H locs ls hO hA hP hD hS hlv) (fun hc => by have k := h.2 hc p e R s mm args below meth c A H locs ls hO hA hP hD hS hlv; rw [nx] at k; exact k)
    | ge => exact lv_icmp_ge hx hb hd ht (fun hc => h.1 hc p e R s mm args below meth c A H locs ls hO hA hP hD hS hlv) (fun hc => by have k := h.2 hc p e R s mm args below meth c A H locs ls hO hA hP hD hS hlv; rw [nx] at k; exact k)
    | gt => exact lv_icmp_gt hx hb hd ht (fun hc => h.1 hc p e R s mm args below meth c A H locs ls hO hA hP hD hS hlv) (fun hc => by have k := h.2 hc p e R s mm args below meth c A H locs ls hO hA hP hD hS hlv; rw [nx] at k; exact k)
    | le => exact lv_icmp_le hx hb hd ht (fun hc => h.1 hc p e R s mm args below meth c A H locs ls hO hA hP hD hS hlv) (fun hc => by have k := h.2 hc p e R s mm args below meth c A H locs ls hO hA hP hD hS hlv; rw [nx] at k; exact k)
  | ifnull off =>
    have nx : zpc m (i + 1) = pc + 3 := by simpa [zfall, zn] using hn
    have ht : (pc : Int) + off = (zpc m (zL L 0) : Int) := by simpa [zlk] using hl
    obtain ⟨v, r, rfl, h1, h2, hv⟩ := zkv_e h
    rcases hv with rfl | ⟨b, rfl⟩
    · exact lv_ifnullN hx hb hd ht (h1 rfl p e R s mm args below meth c A H locs ls hO hA hP hD hS hlv)
    · exact lv_ifnull hx hb hd (by have k := h2 b rfl p e R s mm args below meth c A H locs ls hO hA hP hD hS hlv; rw [nx] at k; exact k)
  | ifnonnull off =>
    have nx : zpc m (i + 1) = pc + 3 := by simpa [zfall, zn] using hn
    have ht : (pc : Int) + off = (zpc m (zL L 0) : Int) := by simpa [zlk] using hl
    obtain ⟨v, r, rfl, h1, h2, hv⟩ := zkv_e h
    rcases hv with rfl | ⟨b, rfl⟩
    · exact lv_ifnonnullN hx hb hd (by have k := h1 rfl p e R s mm args below meth c A H locs ls hO hA hP hD hS hlv; rw [nx] at k; exact k)
    · exact lv_ifnonnull hx hb hd ht (h2 b rfl p e R s mm args below meth c A H locs ls hO hA hP hD hS hlv)
  | tableswitch dflt lo hi offs =>
    obtain ⟨x, r, rfl, h1, h2⟩ := zk1_e h
    simp only [zlk, Bool.and_eq_true, decide_eq_true_eq] at hl
    obtain ⟨hl1, hl2⟩ := hl
    by_cases hin : x.toInt < lo ∨ hi < x.toInt
    · exact lv_tableOut hx hb hd hin hl1 (h1 hin p e R s mm args below meth c A H locs ls hO hA hP hD hS hlv)
    · have a1 : ¬ x.toInt < lo := fun q => hin (Or.inl q)
      have a2 : ¬ hi < x.toInt := fun q => hin (Or.inr q)
      have h3 := List.all_eq_true.mp hl2 (x.toInt - lo).toNat (List.mem_range.mpr (by omega))
      cases ho : offs[(x.toInt - lo).toNat]? with
      | none => rw [ho] at h3; cases h3
      | some off =>
        rw [ho] at h3
        exact lv_tableIn hx hb hd a1 a2 ho (by simpa using h3) (h2 a1 a2 p e R s mm args below meth c A H locs ls hO hA hP hD hS hlv)
  | getfield k =>
    have nx : zpc m (i + 1) = pc + 3 := by simpa [zfall, zn] using hn
    obtain ⟨b, r, rfl, v, hf, h⟩ := zkr_e h
    simp only [zlk, Bool.and_eq_true, decide_eq_true_eq] at hl
    obtain ⟨hl1, hl2⟩ := hl
    unfold zf at hf
    split at hf
    · rename_i ci fl hly
      split at hf
      · rename_i hci
        subst hci
        cases hfl : fl[zL L 1]? with
        | none => rw [hfl] at hf; cases hf
        | some o =>
          rw [hfl] at hf
          unfold zfl at hl1 hl2
          cases hcl : vwCl[zL L 0]? with
          | none => rw [hcl] at hl1; exact absurd rfl hl1
          | some q =>
            simp only [hcl] at hl1 hl2
            split at hl1
            · rename_i hk
              rw [if_pos hk] at hl2
              obtain ⟨hin, -, -⟩ := zcl_sp _ q hcl
              refine va_get (C := q.1) (T := q.2.1) (N := q.2.2) hx hb hts hin hown hK hP b (zW_get hly) hcl (zL L 1) hk (hts _ (zin hl2 rfl)) (fun _ h => h) (v := zv ad v) ?_ hd (by have k := h p e R s mm args below meth c A H locs ls hO hA hP hD hS hlv; rw [nx] at k; exact k)
              rw [List.getElem?_mapIdx, hfl]
              cases o with
              | none => cases hf; rfl
              | some w => cases hf; rfl
            · exact absurd rfl hl1
      · cases hf
    · cases hf
  | putfield k =>
    have nx : zpc m (i + 1) = pc + 3 := by simpa [zfall, zn] using hn
    obtain ⟨x, b, r, rfl, hf, hty, h⟩ := zkir_e h
    simp only [zlk, Bool.and_eq_true, decide_eq_true_eq, Bool.not_eq_true'] at hl
    obtain ⟨⟨hl1, hl2⟩, hl3⟩ := hl
    unfold zfi at hf
    split at hf
    · rename_i ci fl hly
      simp only [Bool.and_eq_true, beq_iff_eq] at hf
      obtain ⟨hci, hfl⟩ := hf
      subst hci
      unfold zfl at hl1 hl2
      unfold zfd at hty
      unfold zfin at hl3
      cases hcl : vwCl[zL L 0]? with
      | none => rw [hcl] at hl1; exact absurd rfl hl1
      | some q =>
        simp only [hcl] at hl1 hl2 hl3 hty
        split at hl1
        · rename_i hk
          rw [if_pos hk] at hl2
          obtain ⟨hin, ⟨ty, hty2⟩, hnm⟩ := zcl_sp _ q hcl
          have hfn : narrow (ty (zL L 1)) (.int x) = .int x ∧ fits (ty (zL L 1)) (.int x) = true := by
            have hp := hty2 _ hk
            rcases hty with hz | ⟨hz, hx01⟩
            · rw [hz] at hp
              have e1 : ty (zL L 1) = .int := (Option.some.inj ((by decide +kernel : parseFieldDescriptor "I" = some .int).symm.trans hp)).symm
              rw [e1]
              exact ⟨rfl, rfl⟩
            · rw [hz] at hp
              have e1 : ty (zL L 1) = .boolean := (Option.some.inj ((by decide +kernel : parseFieldDescriptor "Z" = some .boolean).symm.trans hp)).symm
              rw [e1]
              rcases hx01 with rfl | rfl <;> exact ⟨by decide +kernel, by decide +kernel⟩
          have hlen : zL L 1 < (fl.mapIdx (fun j o => match o with | some r => Value.ref (ad r) | none => .int (σ b j))).length := by
            rw [List.length_mapIdx]
            exact (List.getElem?_eq_some_iff.mp hfl).1
          refine va_put (v := .int x) (C := q.1) (T := q.2.1) (N := q.2.2) hx hb hts hin ty hty2 hnm hown hK hP hD hS b (zW_get hly) hcl (zL L 1) hk (hts _ (zin hl2 rfl)) (fun _ h => h) hl3 (hty2 _ hk) hfn.1 hfn.2 hlen hd (fun H1 locs1 hP1 hD1 hS1 => ?_)
          have hset : (zW ad cA cS σ).set b (ad b, .inr (zL L 0, (fl.mapIdx (fun j o => match o with | some r => Value.ref (ad r) | none => .int (σ b j))).set (zL L 1) (.int x))) = zW ad cA cS (zu σ b (zL L 1) x) := by
            refine Eq.trans ?_ (zW_set hly (fun k hk => zu_ne hk))
            congr 2
            unfold zce
            congr 2
            refine List.ext_getElem? fun j => ?_
            rw [List.getElem?_set, List.getElem?_mapIdx, List.getElem?_mapIdx]
            by_cases hj : zL L 1 = j
            · subst hj
              rw [if_pos rfl, if_pos hlen, hfl]
              show _ = some (Value.int (zu σ b (zL L 1) x b (zL L 1)))
              rw [zu_eq]
              simp [upd]
            · rw [if_neg hj]
              cases fl[j]? with
              | none => rfl
              | some o =>
                cases o with
                | some w => rfl
                | none =>
                  show some (Value.int (σ b j)) = some (Value.int (zu σ b (zL L 1) x b j))
                  rw [zu_eq]
                  simp [upd, Ne.symm hj]
          rw [hset] at hP1 hD1
          have k := h p e R s mm args below meth c A H1 locs1 ls hO hA hP1 hD1 hS1 hlv
          rw [nx] at k
          exact k
        · exact absurd rfl hl1
    · cases hf
  | iaload =>
    have nx : zpc m (i + 1) = pc + 1 := by simpa [zfall, zn] using hn
    obtain ⟨x, b, r, rfl, n, hly, hin, h⟩ := zkir_e h
    exact va_iald hx hb hK hP b 0 (zW_get hly) rfl hin hd (by have k := h p e R s mm args below meth c A H locs ls hO hA hP hD hS hlv; rw [nx] at k; exact k)
  | iastore =>
    have nx : zpc m (i + 1) = pc + 1 := by simpa [zfall, zn] using hn
    obtain ⟨x, j, b, r, rfl, n, hly, hin, h⟩ := zkiir_e h
    refine va_iast hx hb hK hP hD hS b 0 (zW_get hly) rfl hin hd (fun H1 locs1 hP1 hD1 hS1 => ?_)
    have hset : (zW ad cA cS σ).set b (ad b, .inl (cA, n, .inl (upd (σ b) j.toNatClampNeg x))) = zW ad cA cS (zu σ b j.toNatClampNeg x) := by
      refine Eq.trans ?_ (zW_set hly (fun k hk => zu_ne hk))
      unfold zce
      rw [zu_eq]
    rw [hset] at hP1 hD1
    have k := h p e R s mm args below meth c A H1 locs1 ls hO hA hP1 hD1 hS1 hlv
    rw [nx] at k
    exact k
  | aaload =>
    have nx : zpc m (i + 1) = pc + 1 := by simpa [zfall, zn] using hn
    obtain ⟨x, b, r, rfl, rs, q, hly, hin, hq, h⟩ := zkir_e h
    refine va_aldq hx hb hK hP b 1 (zW_get hly) rfl hin hd ?_
    rw [hq]
    exact (by have k := h p e R s mm args below meth c A H locs ls hO hA hP hD hS hlv; rw [nx] at k; exact k)
  | arraylength =>
    have nx : zpc m (i + 1) = pc + 1 := by simpa [zfall, zn] using hn
    obtain ⟨b, r, rfl, n, hly, h⟩ := zkr_e h
    rcases hly with hly | ⟨rs, hly, rfl⟩
    · exact va_alen hx hb hK hP b 0 (zW_get hly) rfl rfl hd (by have k := h p e R s mm args below meth c A H locs ls hO hA hP hD hS hlv; rw [nx] at k; exact k)
    · exact va_alen hx hb hK hP b 1 (zW_get hly) rfl rfl hd (by have k := h p e R s mm args below meth c A H locs ls hO hA hP hD hS hlv; rw [nx] at k; exact k)
  | ireturn =>
    obtain ⟨x, r, rfl, rfl, hty, h⟩ := zk1_e h
    have post : ∀ t : State, t.heap = H → s.WarmedH t.vm → zPo D ad cA cS Q A args s (.returned (some (.int x))) t := fun t ht hW => ⟨⟨some (.int x), σ, rfl, h, by rw [ht]; exact hP, va_K.moved hW.alike hK, fun a i x h hh => va_Nw.warmM hW (hNs a i x h hh), hD⟩, hS.F ht⟩
    rcases hty with hty | ⟨hty, hx01⟩
    · exact W.iret hx hb (hr.trans hty) post hS.2.2 hd
    · exact W.zret hx hb (hr.trans hty) (by rcases hx01 with rfl | rfl <;> decide +kernel) post hS.2.2 hd
  | areturn =>
    obtain ⟨v, r, rfl, rfl, hv, hty, h⟩ := zkv_e h
    have post : ∀ t : State, t.heap = H → s.WarmedH t.vm → zPo D ad cA cS Q A args s (.returned (some (zv ad v))) t := fun t ht hW => ⟨⟨some v, σ, rfl, h, by rw [ht]; exact hP, va_K.moved hW.alike hK, fun a i x h hh => va_Nw.warmM hW (hNs a i x h hh), hD⟩, hS.F ht⟩
    exact W.aret hx hb (hr.trans hty) (Or.inl ⟨_, rfl⟩) (by rcases hv with rfl | ⟨b, rfl⟩; exact Or.inl rfl; exact Or.inr ⟨_, rfl⟩) post hS.2.2 hd
  | return_ =>
    obtain ⟨rfl, hty, h⟩ := h
    have post : ∀ t : State, t.heap = H → s.WarmedH t.vm → zPo D ad cA cS Q A args s (.returned none) t := fun t ht hW => ⟨⟨none, σ, rfl, h, by rw [ht]; exact hP, va_K.moved hW.alike hK, fun a i x h hh => va_Nw.warmM hW (hNs a i x h hh), hD⟩, hS.F ht⟩
    exact W.vret hx hb (hr.trans hty) post hS.2.2 hd
  | invokevirtual k =>
    have nx : zpc m (i + 1) = pc + 3 := by simpa [zfall, zn] using hn
    obtain ⟨b, as, rest, rfl, hlen, hfit, hcls, hcat, d', rfl, Q', h1, h2⟩ := h
    simp only [zlk, Bool.and_eq_true, decide_eq_true_eq] at hl
    obtain ⟨⟨⟨⟨l1, l2⟩, l3⟩, l4⟩, l5⟩ := hl
    obtain ⟨n1, n2, n3, n4, n5, n6⟩ := zokN_sp l4
    have hM := zMet l4 hfit h1 H.size
    have hcl : ∃ q fl, vwCl[zci (zL L 0)]? = some q ∧ q.1 = zo (zL L 0) ∧ zLy[b]? = some (.inr (.inl (zci (zL L 0), fl))) := by
      have h6 := n6 l5
      cases hq : vwCl[zci (zL L 0)]? with
      | none => rw [hq] at h6; cases h6
      | some q =>
        rw [hq] at h6
        unfold zcls at hcls
        split at hcls
        · rename_i ci fl hly
          subst hcls
          exact ⟨q, fl, rfl, Option.some.inj h6, hly⟩
        · omega
    obtain ⟨q, fl, hq1, hq2, hq3⟩ := hcl
    have hrv := va_recv hK hP hq1 (zW_get hq3)
    rw [hq2] at hrv
    refine zgo (rest := rest.map (zv ad)) (va_runV (As := as.map (zv ad)) (b := ad b) (C := zo (zL L 0)) (index := k) (bytes := zb (zL L 0)) (maxL := zl (zL L 0)) (ret := zr (zL L 0)) (n := znp (zL L 0)) (cc := zb m) (nL := zl m) (own := zo m) ⟨hx, hb, hml, hown, hts⟩ hM ⟨callB_of _ hts (fun w hw => ?_) rfl rfl rfl (hts _ n2) (hts _ (zin l1 rfl)) n4 ⟨by show d' + 1 ≤ _; exact hRf0, by show 8 + (zl (zL L 0) + 11) + 32 * d' ≤ _; omega⟩, hts _ (zin l2 rfl), hts _ (zin l3 rfl)⟩ ⟨zblind, hrv, fun U hU hW => zpre hP hD hK hNs hU hW⟩ rfl (by rw [List.length_map]; exact hlen) hlv.1 (by simp [zv]) (lv_room (by rw [zcat_map]; exact hcat)) hd ⟨Nat.zero_le _, Nat.zero_le _⟩) hS (zfree (D := D) hD hS hA) (fun r σ' H1 locs1 hq hP1 hD1 hS1 => ?_)
    · rcases List.mem_cons.mp hw with rfl | hw
      · exact zTb_good _ n1
      · exact zTb_good _ hw
    · have kk := h2 r σ' hq p e R s mm args below meth c A H1 locs1 ls hO hA hP1 hD1 hS1 hlv
      rw [nx] at kk
      cases r <;> simpa using kk
  | invokestatic k =>
    have nx : zpc m (i + 1) = pc + 3 := by simpa [zfall, zn] using hn
    by_cases h9 : zL L 0 = 999
    · simp only [zI, if_pos h9] at h
      simp only [zlk, if_pos h9, Bool.and_eq_true, decide_eq_true_eq] at hl
      obtain ⟨⟨⟨l1, l2⟩, l3⟩, l4⟩ := hl
      obtain ⟨n, dp, b, sp, a, r, rfl, n0, n1, hy0, hy1, g1, g2, g3, g4, g5, g6, g7, h⟩ := zkcp_e h
      refine va_copyi hx hb (hml.trans hlv.1.symm) hown (hts _ (zin l1 rfl)) (hts _ (zin l2 rfl)) (hts _ (zin l3 rfl)) (hts _ (zin l4 rfl)) hK hP hD hS a b 0 0 (zW_get hy0) (zW_get hy1) rfl rfl rfl g1 g2 g3 g4 g5 (fun _ _ => rfl) (by omega) ?_ hd (fun H1 locs1 hP1 hD1 hS1 => ?_)
      · rw [zcat_map]
        have : nativeFrameWords "java/lang/System" "arraycopy" 5 ≤ 13 := by decide +kernel
        omega
      · have hset : (zW ad cA cS σ).set b (ad b, .inl (cA, n1, .inl (va_cpy (σ a) (σ b) sp.toNatClampNeg dp.toNatClampNeg n.toNatClampNeg))) = zW ad cA cS (zcp σ a b sp.toNatClampNeg dp.toNatClampNeg n.toNatClampNeg) := by
          refine Eq.trans ?_ (zW_set hy1 (fun k hk => zcp_ne hk))
          unfold zce
          rw [zcp_eq]
        rw [hset] at hP1 hD1
        have k := h p e R s mm args below meth c A H1 locs1 ls hO hA hP1 hD1 hS1 hlv
        rw [nx] at k
        exact k
    · simp only [zI, if_neg h9] at h
      simp only [zlk, if_neg h9, Bool.and_eq_true, decide_eq_true_eq] at hl
      obtain ⟨⟨l1, l2⟩, l4⟩ := hl
      obtain ⟨as, rest, rfl, hlen, hfit, hcat, d', rfl, Q', h1, h2⟩ := h
      obtain ⟨n1, n2, n3, n4, n5, n6⟩ := zokN_sp l4
      have hM := zMet l4 hfit h1 H.size
      have hG : GoodIn zTb (zws (zL L 0)) := fun w hw => by
        rcases List.mem_cons.mp hw with rfl | hw
        · exact zTb_good _ n1
        · exact zTb_good _ hw
      have hRun : va_Run p l e R s mm args below meth c H locs 0 0 0 0 (F0 mm pc ls ((as.reverse ++ rest).map (zv ad))) (rest.map (zv ad)) (zPo D ad cA cS Q' (va_A (zW ad cA cS σ) H.size) (as.map (zv ad)).toArray) (va_A (zW ad cA cS σ) H.size) := by
        rcases l1 with l1 | l1
        · exact va_runS (As := as.map (zv ad)) (index := k) (bytes := zb (zL L 0)) (maxL := zl (zL L 0)) (ret := zr (zL L 0)) (n := znp (zL L 0)) (cc := zb m) (nL := zl m) (own := zo m) ⟨hx, hb, hml, hown, hts⟩ hM ⟨callB_of _ hts hG rfl rfl rfl (hts _ n2) (hts _ (zin l1 rfl)) n4 ⟨by show d' + 1 ≤ _; exact hRf0, by show 8 + (zl (zL L 0) + 11) + 32 * d' ≤ _; omega⟩, hts _ (zin l2 rfl)⟩ ⟨zblind, fun U hU hW => zpre hP hD hK hNs hU hW⟩ rfl (by rw [List.length_map]; exact hlen) hlv.1 (by simp) (lv_room (by rw [zcat_map]; exact hcat)) hd ⟨Nat.zero_le _, Nat.zero_le _⟩
        · exact va_runSN (As := as.map (zv ad)) (index := k) (bytes := zb (zL L 0)) (maxL := zl (zL L 0)) (ret := zr (zL L 0)) (n := znp (zL L 0)) (cc := zb m) (nL := zl m) (own := zo m) (host := "ToothStones") ⟨hx, hb, hml, hown, hts⟩ hM ⟨va_cnB _ hts hG rfl rfl rfl (hNs _ _ _ _ (List.mem_of_getElem? l1)) (hts _ n2) n4 ⟨by show d' + 1 ≤ _; exact hRf0, by show 8 + (zl (zL L 0) + 11) + 32 * d' ≤ _; omega⟩, hts _ (zin l2 rfl), trivial⟩ ⟨zblind, fun U hU hW => zpre hP hD hK hNs hU hW⟩ rfl (by rw [List.length_map]; exact hlen) hlv.1 (by simp) (lv_room (by rw [zcat_map]; exact hcat)) hd ⟨Nat.zero_le _, Nat.zero_le _⟩
      refine zgo (rest := rest.map (zv ad)) hRun hS (zfree (D := D) hD hS hA) (fun r σ' H1 locs1 hq hP1 hD1 hS1 => ?_)
      have kk := h2 r σ' hq p e R s mm args below meth c A H1 locs1 ls hO hA hP1 hD1 hS1 hlv
      rw [nx] at kk
      cases r <;> simpa using kk
  | _ => exact h.elim
end
