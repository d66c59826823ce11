section
-- ===== PART A: goes FIRST, ahead of the names: the tables' words, and 'selects' of the private methods out of them =====
/-- a private method of a class that the tables say can be made, by its rows of tables_1 -/
def lw_okq (q : MethodName × Nat) : Prop := (q.1.cls ≠ "java/lang/invoke/MethodHandle" ∧ q.1.cls ≠ "java/lang/invoke/VarHandle") ∧ Cond.instantiable q.1.cls q.2 ∈ tables_1 ∧ Cond.privateMethod q.1 ∈ tables_1 ∧ Cond.instanceMethod q.1 ∈ tables_1
theorem lw_p0 : lw_okq (⟨"ToothStones$Table", "setNotLaid", "(I)V"⟩, 12) := ⟨⟨by decide +kernel, by decide +kernel⟩, List.mem_of_getElem? (i := 18) (by decide +kernel), List.mem_of_getElem? (i := 151) (by decide +kernel), List.mem_of_getElem? (i := 152) (by decide +kernel)⟩
theorem lw_p1 : lw_okq (⟨"ToothStones$Tape", "stepOn", "()V"⟩, 3) := ⟨⟨by decide +kernel, by decide +kernel⟩, List.mem_of_getElem? (i := 62) (by decide +kernel), List.mem_of_getElem? (i := 252) (by decide +kernel), List.mem_of_getElem? (i := 253) (by decide +kernel)⟩
theorem lw_p2 : lw_okq (⟨"ToothStones$Tape", "readStone", "(LToothStones$Table;)Z"⟩, 3) := ⟨⟨by decide +kernel, by decide +kernel⟩, List.mem_of_getElem? (i := 62) (by decide +kernel), List.mem_of_getElem? (i := 257) (by decide +kernel), List.mem_of_getElem? (i := 258) (by decide +kernel)⟩
theorem lw_p3 : lw_okq (⟨"ToothStones$Tape", "readDigit", "(II)I"⟩, 3) := ⟨⟨by decide +kernel, by decide +kernel⟩, List.mem_of_getElem? (i := 62) (by decide +kernel), List.mem_of_getElem? (i := 261) (by decide +kernel), List.mem_of_getElem? (i := 262) (by decide +kernel)⟩
theorem lw_p4 : lw_okq (⟨"ToothStones$Tape", "readKind", "()I"⟩, 3) := ⟨⟨by decide +kernel, by decide +kernel⟩, List.mem_of_getElem? (i := 62) (by decide +kernel), List.mem_of_getElem? (i := 266) (by decide +kernel), List.mem_of_getElem? (i := 267) (by decide +kernel)⟩
theorem lw_p5 : lw_okq (⟨"ToothStones$Tape", "readSign", "(C)Z"⟩, 3) := ⟨⟨by decide +kernel, by decide +kernel⟩, List.mem_of_getElem? (i := 62) (by decide +kernel), List.mem_of_getElem? (i := 270) (by decide +kernel), List.mem_of_getElem? (i := 271) (by decide +kernel)⟩
theorem lw_p6 : lw_okq (⟨"ToothStones$Tape", "readMark", "(LToothStones$Table;II)Z"⟩, 3) := ⟨⟨by decide +kernel, by decide +kernel⟩, List.mem_of_getElem? (i := 62) (by decide +kernel), List.mem_of_getElem? (i := 275) (by decide +kernel), List.mem_of_getElem? (i := 276) (by decide +kernel)⟩
theorem lw_p7 : lw_okq (⟨"ToothStones$Table", "lastTeeth", "()I"⟩, 12) := ⟨⟨by decide +kernel, by decide +kernel⟩, List.mem_of_getElem? (i := 18) (by decide +kernel), List.mem_of_getElem? (i := 329) (by decide +kernel), List.mem_of_getElem? (i := 330) (by decide +kernel)⟩
theorem lw_p8 : lw_okq (⟨"ToothStones$Table", "backWayAt", "(I)I"⟩, 12) := ⟨⟨by decide +kernel, by decide +kernel⟩, List.mem_of_getElem? (i := 18) (by decide +kernel), List.mem_of_getElem? (i := 352) (by decide +kernel), List.mem_of_getElem? (i := 353) (by decide +kernel)⟩
theorem lw_p9 : lw_okq (⟨"ToothStones$Table", "backWay", "(II)I"⟩, 12) := ⟨⟨by decide +kernel, by decide +kernel⟩, List.mem_of_getElem? (i := 18) (by decide +kernel), List.mem_of_getElem? (i := 356) (by decide +kernel), List.mem_of_getElem? (i := 357) (by decide +kernel)⟩
theorem lw_p10 : lw_okq (⟨"ToothStones$Table", "hasPawl", "(I)Z"⟩, 12) := ⟨⟨by decide +kernel, by decide +kernel⟩, List.mem_of_getElem? (i := 18) (by decide +kernel), List.mem_of_getElem? (i := 364) (by decide +kernel), List.mem_of_getElem? (i := 365) (by decide +kernel)⟩
theorem lw_p11 : lw_okq (⟨"ToothStones$Table", "turnWheel", "(III)V"⟩, 12) := ⟨⟨by decide +kernel, by decide +kernel⟩, List.mem_of_getElem? (i := 18) (by decide +kernel), List.mem_of_getElem? (i := 373) (by decide +kernel), List.mem_of_getElem? (i := 374) (by decide +kernel)⟩
theorem lw_p12 : lw_okq (⟨"ToothStones$Table", "scoreNow", "()I"⟩, 12) := ⟨⟨by decide +kernel, by decide +kernel⟩, List.mem_of_getElem? (i := 18) (by decide +kernel), List.mem_of_getElem? (i := 387) (by decide +kernel), List.mem_of_getElem? (i := 388) (by decide +kernel)⟩
theorem lw_p13 : lw_okq (⟨"ToothStones", "crankRefusal", "()I"⟩, 9) := ⟨⟨by decide +kernel, by decide +kernel⟩, List.mem_of_getElem? (i := 10) (by decide +kernel), List.mem_of_getElem? (i := 432) (by decide +kernel), List.mem_of_getElem? (i := 433) (by decide +kernel)⟩
theorem lw_p14 : lw_okq (⟨"ToothStones$Table", "firstUp", "(IIIII)I"⟩, 12) := ⟨⟨by decide +kernel, by decide +kernel⟩, List.mem_of_getElem? (i := 18) (by decide +kernel), List.mem_of_getElem? (i := 451) (by decide +kernel), List.mem_of_getElem? (i := 452) (by decide +kernel)⟩
theorem lw_p15 : lw_okq (⟨"ToothStones", "worthOf", "(II)I"⟩, 9) := ⟨⟨by decide +kernel, by decide +kernel⟩, List.mem_of_getElem? (i := 10) (by decide +kernel), List.mem_of_getElem? (i := 466) (by decide +kernel), List.mem_of_getElem? (i := 467) (by decide +kernel)⟩
def lw_privs_1 : List (MethodName × Nat) := [(⟨"ToothStones$Table", "setNotLaid", "(I)V"⟩, 12), (⟨"ToothStones$Tape", "stepOn", "()V"⟩, 3), (⟨"ToothStones$Tape", "readStone", "(LToothStones$Table;)Z"⟩, 3), (⟨"ToothStones$Tape", "readDigit", "(II)I"⟩, 3), (⟨"ToothStones$Tape", "readKind", "()I"⟩, 3), (⟨"ToothStones$Tape", "readSign", "(C)Z"⟩, 3), (⟨"ToothStones$Tape", "readMark", "(LToothStones$Table;II)Z"⟩, 3), (⟨"ToothStones$Table", "lastTeeth", "()I"⟩, 12), (⟨"ToothStones$Table", "backWayAt", "(I)I"⟩, 12), (⟨"ToothStones$Table", "backWay", "(II)I"⟩, 12), (⟨"ToothStones$Table", "hasPawl", "(I)Z"⟩, 12), (⟨"ToothStones$Table", "turnWheel", "(III)V"⟩, 12), (⟨"ToothStones$Table", "scoreNow", "()I"⟩, 12), (⟨"ToothStones", "crankRefusal", "()I"⟩, 9), (⟨"ToothStones$Table", "firstUp", "(IIIII)I"⟩, 12), (⟨"ToothStones", "worthOf", "(II)I"⟩, 9)]
theorem lw_r1 : ∀ q ∈ lw_privs_1, lw_okq q := List.forall_mem_cons.mpr ⟨lw_p0, List.forall_mem_cons.mpr ⟨lw_p1, List.forall_mem_cons.mpr ⟨lw_p2, List.forall_mem_cons.mpr ⟨lw_p3, List.forall_mem_cons.mpr ⟨lw_p4, List.forall_mem_cons.mpr ⟨lw_p5, List.forall_mem_cons.mpr ⟨lw_p6, List.forall_mem_cons.mpr ⟨lw_p7, List.forall_mem_cons.mpr ⟨lw_p8, List.forall_mem_cons.mpr ⟨lw_p9, List.forall_mem_cons.mpr ⟨lw_p10, List.forall_mem_cons.mpr ⟨lw_p11, List.forall_mem_cons.mpr ⟨lw_p12, List.forall_mem_cons.mpr ⟨lw_p13, List.forall_mem_cons.mpr ⟨lw_p14, List.forall_mem_cons.mpr ⟨lw_p15, fun _ h => absurd h List.not_mem_nil⟩⟩⟩⟩⟩⟩⟩⟩⟩⟩⟩⟩⟩⟩⟩⟩
theorem lw_p16 : lw_okq (⟨"ToothStones$Table", "countLays", "(I)I"⟩, 12) := ⟨⟨by decide +kernel, by decide +kernel⟩, List.mem_of_getElem? (i := 18) (by decide +kernel), List.mem_of_getElem? (i := 490) (by decide +kernel), List.mem_of_getElem? (i := 491) (by decide +kernel)⟩
theorem lw_p17 : lw_okq (⟨"ToothStones", "sheetAt", "(I)LToothStones$Sheet;"⟩, 9) := ⟨⟨by decide +kernel, by decide +kernel⟩, List.mem_of_getElem? (i := 10) (by decide +kernel), List.mem_of_getElem? (i := 523) (by decide +kernel), List.mem_of_getElem? (i := 524) (by decide +kernel)⟩
theorem lw_p18 : lw_okq (⟨"ToothStones", "firstThatMayNot", "(LToothStones$Sheet;II)I"⟩, 9) := ⟨⟨by decide +kernel, by decide +kernel⟩, List.mem_of_getElem? (i := 10) (by decide +kernel), List.mem_of_getElem? (i := 539) (by decide +kernel), List.mem_of_getElem? (i := 540) (by decide +kernel)⟩
theorem lw_p19 : lw_okq (⟨"ToothStones", "countOrders", "(IILToothStones$Sheet;I)I"⟩, 9) := ⟨⟨by decide +kernel, by decide +kernel⟩, List.mem_of_getElem? (i := 10) (by decide +kernel), List.mem_of_getElem? (i := 557) (by decide +kernel), List.mem_of_getElem? (i := 558) (by decide +kernel)⟩
theorem lw_p20 : lw_okq (⟨"ToothStones", "startOrder", "(I)V"⟩, 9) := ⟨⟨by decide +kernel, by decide +kernel⟩, List.mem_of_getElem? (i := 10) (by decide +kernel), List.mem_of_getElem? (i := 561) (by decide +kernel), List.mem_of_getElem? (i := 562) (by decide +kernel)⟩
theorem lw_p21 : lw_okq (⟨"ToothStones", "bringsMarks", "(IILToothStones$Sheet;I)Z"⟩, 9) := ⟨⟨by decide +kernel, by decide +kernel⟩, List.mem_of_getElem? (i := 10) (by decide +kernel), List.mem_of_getElem? (i := 569) (by decide +kernel), List.mem_of_getElem? (i := 570) (by decide +kernel)⟩
theorem lw_p22 : lw_okq (⟨"ToothStones", "nextOrder", "(I)Z"⟩, 9) := ⟨⟨by decide +kernel, by decide +kernel⟩, List.mem_of_getElem? (i := 10) (by decide +kernel), List.mem_of_getElem? (i := 575) (by decide +kernel), List.mem_of_getElem? (i := 576) (by decide +kernel)⟩
theorem lw_p23 : lw_okq (⟨"ToothStones", "swapInOrder", "(II)V"⟩, 9) := ⟨⟨by decide +kernel, by decide +kernel⟩, List.mem_of_getElem? (i := 10) (by decide +kernel), List.mem_of_getElem? (i := 579) (by decide +kernel), List.mem_of_getElem? (i := 580) (by decide +kernel)⟩
theorem lw_p24 : lw_okq (⟨"ToothStonesModel", "add", "(IIIII)V"⟩, 28) := ⟨⟨by decide +kernel, by decide +kernel⟩, List.mem_of_getElem? (i := 617) (by decide +kernel), List.mem_of_getElem? (i := 717) (by decide +kernel), List.mem_of_getElem? (i := 718) (by decide +kernel)⟩
theorem lw_p25 : lw_okq (⟨"ToothStonesModel", "isStone", "(I)Z"⟩, 28) := ⟨⟨by decide +kernel, by decide +kernel⟩, List.mem_of_getElem? (i := 617) (by decide +kernel), List.mem_of_getElem? (i := 725) (by decide +kernel), List.mem_of_getElem? (i := 726) (by decide +kernel)⟩
theorem lw_p26 : lw_okq (⟨"ToothStonesModel", "teeth", "(II)I"⟩, 28) := ⟨⟨by decide +kernel, by decide +kernel⟩, List.mem_of_getElem? (i := 617) (by decide +kernel), List.mem_of_getElem? (i := 729) (by decide +kernel), List.mem_of_getElem? (i := 730) (by decide +kernel)⟩
theorem lw_p27 : lw_okq (⟨"ToothStonesModel", "placeOf", "(I)I"⟩, 28) := ⟨⟨by decide +kernel, by decide +kernel⟩, List.mem_of_getElem? (i := 617) (by decide +kernel), List.mem_of_getElem? (i := 738) (by decide +kernel), List.mem_of_getElem? (i := 739) (by decide +kernel)⟩
theorem lw_p28 : lw_okq (⟨"ToothStonesModel", "readStones", "()Z"⟩, 28) := ⟨⟨by decide +kernel, by decide +kernel⟩, List.mem_of_getElem? (i := 617) (by decide +kernel), List.mem_of_getElem? (i := 759) (by decide +kernel), List.mem_of_getElem? (i := 760) (by decide +kernel)⟩
theorem lw_p29 : lw_okq (⟨"ToothStonesModel", "readStone", "(I)Z"⟩, 28) := ⟨⟨by decide +kernel, by decide +kernel⟩, List.mem_of_getElem? (i := 617) (by decide +kernel), List.mem_of_getElem? (i := 763) (by decide +kernel), List.mem_of_getElem? (i := 764) (by decide +kernel)⟩
theorem lw_p30 : lw_okq (⟨"ToothStonesModel", "readDigit", "(III)Z"⟩, 28) := ⟨⟨by decide +kernel, by decide +kernel⟩, List.mem_of_getElem? (i := 617) (by decide +kernel), List.mem_of_getElem? (i := 767) (by decide +kernel), List.mem_of_getElem? (i := 768) (by decide +kernel)⟩
theorem lw_p31 : lw_okq (⟨"ToothStonesModel", "nextByte", "()I"⟩, 28) := ⟨⟨by decide +kernel, by decide +kernel⟩, List.mem_of_getElem? (i := 617) (by decide +kernel), List.mem_of_getElem? (i := 771) (by decide +kernel), List.mem_of_getElem? (i := 772) (by decide +kernel)⟩
def lw_privs_2 : List (MethodName × Nat) := [(⟨"ToothStones$Table", "countLays", "(I)I"⟩, 12), (⟨"ToothStones", "sheetAt", "(I)LToothStones$Sheet;"⟩, 9), (⟨"ToothStones", "firstThatMayNot", "(LToothStones$Sheet;II)I"⟩, 9), (⟨"ToothStones", "countOrders", "(IILToothStones$Sheet;I)I"⟩, 9), (⟨"ToothStones", "startOrder", "(I)V"⟩, 9), (⟨"ToothStones", "bringsMarks", "(IILToothStones$Sheet;I)Z"⟩, 9), (⟨"ToothStones", "nextOrder", "(I)Z"⟩, 9), (⟨"ToothStones", "swapInOrder", "(II)V"⟩, 9), (⟨"ToothStonesModel", "add", "(IIIII)V"⟩, 28), (⟨"ToothStonesModel", "isStone", "(I)Z"⟩, 28), (⟨"ToothStonesModel", "teeth", "(II)I"⟩, 28), (⟨"ToothStonesModel", "placeOf", "(I)I"⟩, 28), (⟨"ToothStonesModel", "readStones", "()Z"⟩, 28), (⟨"ToothStonesModel", "readStone", "(I)Z"⟩, 28), (⟨"ToothStonesModel", "readDigit", "(III)Z"⟩, 28), (⟨"ToothStonesModel", "nextByte", "()I"⟩, 28)]
theorem lw_r2 : ∀ q ∈ lw_privs_2, lw_okq q := List.forall_mem_cons.mpr ⟨lw_p16, List.forall_mem_cons.mpr ⟨lw_p17, List.forall_mem_cons.mpr ⟨lw_p18, List.forall_mem_cons.mpr ⟨lw_p19, List.forall_mem_cons.mpr ⟨lw_p20, List.forall_mem_cons.mpr ⟨lw_p21, List.forall_mem_cons.mpr ⟨lw_p22, List.forall_mem_cons.mpr ⟨lw_p23, List.forall_mem_cons.mpr ⟨lw_p24, List.forall_mem_cons.mpr ⟨lw_p25, List.forall_mem_cons.mpr ⟨lw_p26, List.forall_mem_cons.mpr ⟨lw_p27, List.forall_mem_cons.mpr ⟨lw_p28, List.forall_mem_cons.mpr ⟨lw_p29, List.forall_mem_cons.mpr ⟨lw_p30, List.forall_mem_cons.mpr ⟨lw_p31, fun _ h => absurd h List.not_mem_nil⟩⟩⟩⟩⟩⟩⟩⟩⟩⟩⟩⟩⟩⟩⟩⟩
theorem lw_p32 : lw_okq (⟨"ToothStonesModel", "upMarks", "()I"⟩, 28) := ⟨⟨by decide +kernel, by decide +kernel⟩, List.mem_of_getElem? (i := 617) (by decide +kernel), List.mem_of_getElem? (i := 779) (by decide +kernel), List.mem_of_getElem? (i := 780) (by decide +kernel)⟩
theorem lw_p33 : lw_okq (⟨"ToothStonesModel", "mayLay", "(II)Z"⟩, 28) := ⟨⟨by decide +kernel, by decide +kernel⟩, List.mem_of_getElem? (i := 617) (by decide +kernel), List.mem_of_getElem? (i := 787) (by decide +kernel), List.mem_of_getElem? (i := 788) (by decide +kernel)⟩
theorem lw_p34 : lw_okq (⟨"ToothStonesModel", "layOne", "(II)I"⟩, 28) := ⟨⟨by decide +kernel, by decide +kernel⟩, List.mem_of_getElem? (i := 617) (by decide +kernel), List.mem_of_getElem? (i := 798) (by decide +kernel), List.mem_of_getElem? (i := 799) (by decide +kernel)⟩
theorem lw_p35 : lw_okq (⟨"ToothStonesModel", "put", "(II)I"⟩, 28) := ⟨⟨by decide +kernel, by decide +kernel⟩, List.mem_of_getElem? (i := 617) (by decide +kernel), List.mem_of_getElem? (i := 802) (by decide +kernel), List.mem_of_getElem? (i := 803) (by decide +kernel)⟩
theorem lw_p36 : lw_okq (⟨"ToothStonesModel", "wayForBack", "()I"⟩, 28) := ⟨⟨by decide +kernel, by decide +kernel⟩, List.mem_of_getElem? (i := 617) (by decide +kernel), List.mem_of_getElem? (i := 806) (by decide +kernel), List.mem_of_getElem? (i := 807) (by decide +kernel)⟩
theorem lw_p37 : lw_okq (⟨"ToothStonesModel", "findWays", "(I)V"⟩, 28) := ⟨⟨by decide +kernel, by decide +kernel⟩, List.mem_of_getElem? (i := 617) (by decide +kernel), List.mem_of_getElem? (i := 810) (by decide +kernel), List.mem_of_getElem? (i := 811) (by decide +kernel)⟩
theorem lw_p38 : lw_okq (⟨"ToothStonesModel", "isLocked", "()Z"⟩, 28) := ⟨⟨by decide +kernel, by decide +kernel⟩, List.mem_of_getElem? (i := 617) (by decide +kernel), List.mem_of_getElem? (i := 814) (by decide +kernel), List.mem_of_getElem? (i := 815) (by decide +kernel)⟩
theorem lw_p39 : lw_okq (⟨"ToothStonesModel", "isOdd", "()Z"⟩, 28) := ⟨⟨by decide +kernel, by decide +kernel⟩, List.mem_of_getElem? (i := 617) (by decide +kernel), List.mem_of_getElem? (i := 818) (by decide +kernel), List.mem_of_getElem? (i := 819) (by decide +kernel)⟩
theorem lw_p40 : lw_okq (⟨"ToothStonesModel", "lockedAt", "()I"⟩, 28) := ⟨⟨by decide +kernel, by decide +kernel⟩, List.mem_of_getElem? (i := 617) (by decide +kernel), List.mem_of_getElem? (i := 822) (by decide +kernel), List.mem_of_getElem? (i := 823) (by decide +kernel)⟩
theorem lw_p41 : lw_okq (⟨"ToothStonesModel", "isPawled", "(I)Z"⟩, 28) := ⟨⟨by decide +kernel, by decide +kernel⟩, List.mem_of_getElem? (i := 617) (by decide +kernel), List.mem_of_getElem? (i := 826) (by decide +kernel), List.mem_of_getElem? (i := 827) (by decide +kernel)⟩
theorem lw_p42 : lw_okq (⟨"ToothStonesModel", "turnAll", "(I)V"⟩, 28) := ⟨⟨by decide +kernel, by decide +kernel⟩, List.mem_of_getElem? (i := 617) (by decide +kernel), List.mem_of_getElem? (i := 830) (by decide +kernel), List.mem_of_getElem? (i := 831) (by decide +kernel)⟩
theorem lw_p43 : lw_okq (⟨"ToothStonesModel", "isForwardLocked", "()Z"⟩, 28) := ⟨⟨by decide +kernel, by decide +kernel⟩, List.mem_of_getElem? (i := 617) (by decide +kernel), List.mem_of_getElem? (i := 860) (by decide +kernel), List.mem_of_getElem? (i := 861) (by decide +kernel)⟩
theorem lw_p44 : lw_okq (⟨"ToothStonesModel", "roundOf", "()I"⟩, 28) := ⟨⟨by decide +kernel, by decide +kernel⟩, List.mem_of_getElem? (i := 617) (by decide +kernel), List.mem_of_getElem? (i := 864) (by decide +kernel), List.mem_of_getElem? (i := 865) (by decide +kernel)⟩
theorem lw_p45 : lw_okq (⟨"ToothStonesModel", "isUpBehind", "(I)Z"⟩, 28) := ⟨⟨by decide +kernel, by decide +kernel⟩, List.mem_of_getElem? (i := 617) (by decide +kernel), List.mem_of_getElem? (i := 875) (by decide +kernel), List.mem_of_getElem? (i := 876) (by decide +kernel)⟩
theorem lw_p46 : lw_okq (⟨"ToothStonesModel", "teethTo", "(IIII)I"⟩, 28) := ⟨⟨by decide +kernel, by decide +kernel⟩, List.mem_of_getElem? (i := 617) (by decide +kernel), List.mem_of_getElem? (i := 879) (by decide +kernel), List.mem_of_getElem? (i := 880) (by decide +kernel)⟩
theorem lw_p47 : lw_okq (⟨"ToothStonesModel", "keepIn", "([I)V"⟩, 28) := ⟨⟨by decide +kernel, by decide +kernel⟩, List.mem_of_getElem? (i := 617) (by decide +kernel), List.mem_of_getElem? (i := 892) (by decide +kernel), List.mem_of_getElem? (i := 893) (by decide +kernel)⟩
def lw_privs_3 : List (MethodName × Nat) := [(⟨"ToothStonesModel", "upMarks", "()I"⟩, 28), (⟨"ToothStonesModel", "mayLay", "(II)Z"⟩, 28), (⟨"ToothStonesModel", "layOne", "(II)I"⟩, 28), (⟨"ToothStonesModel", "put", "(II)I"⟩, 28), (⟨"ToothStonesModel", "wayForBack", "()I"⟩, 28), (⟨"ToothStonesModel", "findWays", "(I)V"⟩, 28), (⟨"ToothStonesModel", "isLocked", "()Z"⟩, 28), (⟨"ToothStonesModel", "isOdd", "()Z"⟩, 28), (⟨"ToothStonesModel", "lockedAt", "()I"⟩, 28), (⟨"ToothStonesModel", "isPawled", "(I)Z"⟩, 28), (⟨"ToothStonesModel", "turnAll", "(I)V"⟩, 28), (⟨"ToothStonesModel", "isForwardLocked", "()Z"⟩, 28), (⟨"ToothStonesModel", "roundOf", "()I"⟩, 28), (⟨"ToothStonesModel", "isUpBehind", "(I)Z"⟩, 28), (⟨"ToothStonesModel", "teethTo", "(IIII)I"⟩, 28), (⟨"ToothStonesModel", "keepIn", "([I)V"⟩, 28)]
theorem lw_r3 : ∀ q ∈ lw_privs_3, lw_okq q := List.forall_mem_cons.mpr ⟨lw_p32, List.forall_mem_cons.mpr ⟨lw_p33, List.forall_mem_cons.mpr ⟨lw_p34, List.forall_mem_cons.mpr ⟨lw_p35, List.forall_mem_cons.mpr ⟨lw_p36, List.forall_mem_cons.mpr ⟨lw_p37, List.forall_mem_cons.mpr ⟨lw_p38, List.forall_mem_cons.mpr ⟨lw_p39, List.forall_mem_cons.mpr ⟨lw_p40, List.forall_mem_cons.mpr ⟨lw_p41, List.forall_mem_cons.mpr ⟨lw_p42, List.forall_mem_cons.mpr ⟨lw_p43, List.forall_mem_cons.mpr ⟨lw_p44, List.forall_mem_cons.mpr ⟨lw_p45, List.forall_mem_cons.mpr ⟨lw_p46, List.forall_mem_cons.mpr ⟨lw_p47, fun _ h => absurd h List.not_mem_nil⟩⟩⟩⟩⟩⟩⟩⟩⟩⟩⟩⟩⟩⟩⟩⟩
theorem lw_p48 : lw_okq (⟨"ToothStonesModel", "greatestOf", "(I)I"⟩, 28) := ⟨⟨by decide +kernel, by decide +kernel⟩, List.mem_of_getElem? (i := 617) (by decide +kernel), List.mem_of_getElem? (i := 896) (by decide +kernel), List.mem_of_getElem? (i := 897) (by decide +kernel)⟩
theorem lw_p49 : lw_okq (⟨"ToothStonesModel", "bringBack", "([II)V"⟩, 28) := ⟨⟨by decide +kernel, by decide +kernel⟩, List.mem_of_getElem? (i := 617) (by decide +kernel), List.mem_of_getElem? (i := 900) (by decide +kernel), List.mem_of_getElem? (i := 901) (by decide +kernel)⟩
theorem lw_p50 : lw_okq (⟨"ToothStonesModel", "laysOf", "(II)I"⟩, 28) := ⟨⟨by decide +kernel, by decide +kernel⟩, List.mem_of_getElem? (i := 617) (by decide +kernel), List.mem_of_getElem? (i := 909) (by decide +kernel), List.mem_of_getElem? (i := 910) (by decide +kernel)⟩
theorem lw_p51 : lw_okq (⟨"ToothStonesModel", "lacksRow", "(IIII)I"⟩, 28) := ⟨⟨by decide +kernel, by decide +kernel⟩, List.mem_of_getElem? (i := 617) (by decide +kernel), List.mem_of_getElem? (i := 944) (by decide +kernel), List.mem_of_getElem? (i := 945) (by decide +kernel)⟩
theorem lw_p52 : lw_okq (⟨"ToothStonesModel", "countOrders", "(II)I"⟩, 28) := ⟨⟨by decide +kernel, by decide +kernel⟩, List.mem_of_getElem? (i := 617) (by decide +kernel), List.mem_of_getElem? (i := 956) (by decide +kernel), List.mem_of_getElem? (i := 957) (by decide +kernel)⟩
theorem lw_p53 : lw_okq (⟨"ToothStonesModel", "brings", "(II)Z"⟩, 28) := ⟨⟨by decide +kernel, by decide +kernel⟩, List.mem_of_getElem? (i := 617) (by decide +kernel), List.mem_of_getElem? (i := 960) (by decide +kernel), List.mem_of_getElem? (i := 961) (by decide +kernel)⟩
theorem lw_p54 : lw_okq (⟨"ToothStonesModel", "nextOrder", "()Z"⟩, 28) := ⟨⟨by decide +kernel, by decide +kernel⟩, List.mem_of_getElem? (i := 617) (by decide +kernel), List.mem_of_getElem? (i := 964) (by decide +kernel), List.mem_of_getElem? (i := 965) (by decide +kernel)⟩
def lw_privs_4 : List (MethodName × Nat) := [(⟨"ToothStonesModel", "greatestOf", "(I)I"⟩, 28), (⟨"ToothStonesModel", "bringBack", "([II)V"⟩, 28), (⟨"ToothStonesModel", "laysOf", "(II)I"⟩, 28), (⟨"ToothStonesModel", "lacksRow", "(IIII)I"⟩, 28), (⟨"ToothStonesModel", "countOrders", "(II)I"⟩, 28), (⟨"ToothStonesModel", "brings", "(II)Z"⟩, 28), (⟨"ToothStonesModel", "nextOrder", "()Z"⟩, 28)]
theorem lw_r4 : ∀ q ∈ lw_privs_4, lw_okq q := List.forall_mem_cons.mpr ⟨lw_p48, List.forall_mem_cons.mpr ⟨lw_p49, List.forall_mem_cons.mpr ⟨lw_p50, List.forall_mem_cons.mpr ⟨lw_p51, List.forall_mem_cons.mpr ⟨lw_p52, List.forall_mem_cons.mpr ⟨lw_p53, List.forall_mem_cons.mpr ⟨lw_p54, fun _ h => absurd h List.not_mem_nil⟩⟩⟩⟩⟩⟩⟩
def lw_privs : List (MethodName × Nat) := lw_privs_1 ++ (lw_privs_2 ++ (lw_privs_3 ++ (lw_privs_4)))
def lw_tbl : List Cond := k2_sels lw_privs ++ tables_1
theorem lw_privs_ok : ∀ q ∈ lw_privs, lw_okq q := by
  show ∀ q ∈ lw_privs_1 ++ (lw_privs_2 ++ (lw_privs_3 ++ (lw_privs_4))), lw_okq q
  exact List.forall_mem_append.mpr ⟨lw_r1, List.forall_mem_append.mpr ⟨lw_r2, List.forall_mem_append.mpr ⟨lw_r3, lw_r4⟩⟩⟩

def RX0 : String := "ToothStones$Sheet"
def TX0 : u_T := fun k => match k with
  | 0 => ("ToothStones$Sheet", "items", "[I", true)
  | 1 => ("ToothStones$Sheet", "isHeld", "Z", false)
  | 2 => ("ToothStones$Sheet", "laneHeld", "I", false)
  | _ => ("ToothStones$Sheet", "size", "I", false)
def tyX0 : Nat → FieldType := fun k => match k with
  | 0 => .array .int
  | 1 => .boolean
  | 2 => .int
  | _ => .int
abbrev wsX00 : List Cond := u_ws RX0 TX0 4
theorem nmX0 : ∀ a, a < 4 → ∀ b, b < 4 → a ≠ b → (TX0 a).2.1 ≠ (TX0 b).2.1 := by decide +kernel
theorem tyX0_ok : ∀ k, k < 4 → parseFieldDescriptor (TX0 k).2.2.1 = some (tyX0 k) := by decide +kernel
abbrev cX0_init : ByteArray := prog_2_method_1_code
def yX0_init : MethodName := ⟨RX0, "<init>", "()V"⟩
abbrev cX0_isNothing : ByteArray := prog_2_method_2_code
def yX0_isNothing : MethodName := ⟨RX0, "isNothing", "()Z"⟩
abbrev cX0_holdNew : ByteArray := prog_2_method_3_code
def yX0_holdNew : MethodName := ⟨RX0, "holdNew", "(II)V"⟩
abbrev cX0_holdNothing : ByteArray := prog_2_method_4_code
def yX0_holdNothing : MethodName := ⟨RX0, "holdNothing", "()I"⟩
abbrev cX0_refusalOf : ByteArray := prog_2_method_5_code
def yX0_refusalOf : MethodName := ⟨RX0, "refusalOf", "(III)I"⟩
abbrev cX0_itemAt : ByteArray := prog_2_method_6_code
def yX0_itemAt : MethodName := ⟨RX0, "itemAt", "(I)I"⟩
abbrev cX0_setItem : ByteArray := prog_2_method_7_code
def yX0_setItem : MethodName := ⟨RX0, "setItem", "(II)V"⟩
def RX1 : String := "ToothStones$Table"
def TX1 : u_T := fun k => match k with
  | 0 => ("ToothStones$Table", "stoneCount", "I", false)
  | 1 => ("ToothStones$Table", "kinds", "[I", true)
  | 2 => ("ToothStones$Table", "teeth", "[I", true)
  | 3 => ("ToothStones$Table", "marks", "[I", true)
  | 4 => ("ToothStones$Table", "hands", "[I", true)
  | 5 => ("ToothStones$Table", "places", "[I", true)
  | 6 => ("ToothStones$Table", "fronts", "[I", true)
  | 7 => ("ToothStones$Table", "trainLength", "I", false)
  | 8 => ("ToothStones$Table", "train", "[I", true)
  | 9 => ("ToothStones$Table", "isRing", "Z", false)
  | 10 => ("ToothStones$Table", "scores", "[I", true)
  | _ => ("ToothStones$Table", "draw", "I", false)
def tyX1 : Nat → FieldType := fun k => match k with
  | 0 => .int
  | 1 => .array .int
  | 2 => .array .int
  | 3 => .array .int
  | 4 => .array .int
  | 5 => .array .int
  | 6 => .array .int
  | 7 => .int
  | 8 => .array .int
  | 9 => .boolean
  | 10 => .array .int
  | _ => .int
abbrev wsX10 : List Cond := u_ws RX1 TX1 12
theorem nmX1 : ∀ a, a < 12 → ∀ b, b < 12 → a ≠ b → (TX1 a).2.1 ≠ (TX1 b).2.1 := by decide +kernel
theorem tyX1_ok : ∀ k, k < 12 → parseFieldDescriptor (TX1 k).2.2.1 = some (tyX1 k) := by decide +kernel
abbrev cX1_init : ByteArray := prog_3_method_1_code
def yX1_init : MethodName := ⟨RX1, "<init>", "()V"⟩
abbrev cX1_copyFrom : ByteArray := prog_3_method_2_code
def yX1_copyFrom : MethodName := ⟨RX1, "copyFrom", "(LToothStones$Table;)V"⟩
abbrev cX1_clear : ByteArray := prog_3_method_3_code
def yX1_clear : MethodName := ⟨RX1, "clear", "()V"⟩
abbrev cX1_isFull : ByteArray := prog_3_method_4_code
def yX1_isFull : MethodName := ⟨RX1, "isFull", "()Z"⟩
abbrev cX1_addStone : ByteArray := prog_3_method_5_code
def yX1_addStone : MethodName := ⟨RX1, "addStone", "(III)I"⟩
abbrev cX1_setNotLaid : ByteArray := prog_3_method_6_code
def yX1_setNotLaid : MethodName := ⟨RX1, "setNotLaid", "(I)V"⟩
abbrev cX1_stoneCount : ByteArray := prog_3_method_7_code
def yX1_stoneCount : MethodName := ⟨RX1, "stoneCount", "()I"⟩
abbrev cX1_hasStone : ByteArray := prog_3_method_8_code
def yX1_hasStone : MethodName := ⟨RX1, "hasStone", "(I)Z"⟩
abbrev cX1_hasSet : ByteArray := prog_3_method_9_code
def yX1_hasSet : MethodName := ⟨RX1, "hasSet", "(I)Z"⟩
abbrev cX1_kindOf : ByteArray := prog_3_method_10_code
def yX1_kindOf : MethodName := ⟨RX1, "kindOf", "(I)I"⟩
abbrev cX1_teethOf : ByteArray := prog_3_method_11_code
def yX1_teethOf : MethodName := ⟨RX1, "teethOf", "(II)I"⟩
abbrev cX1_markOf : ByteArray := prog_3_method_12_code
def yX1_markOf : MethodName := ⟨RX1, "markOf", "(II)I"⟩
abbrev cX1_setMark : ByteArray := prog_3_method_13_code
def yX1_setMark : MethodName := ⟨RX1, "setMark", "(III)V"⟩
abbrev cX1_handOf : ByteArray := prog_3_method_14_code
def yX1_handOf : MethodName := ⟨RX1, "handOf", "(I)I"⟩
abbrev cX1_setHand : ByteArray := prog_3_method_15_code
def yX1_setHand : MethodName := ⟨RX1, "setHand", "(II)V"⟩
abbrev cX1_handSize : ByteArray := prog_3_method_16_code
def yX1_handSize : MethodName := ⟨RX1, "handSize", "(I)I"⟩
abbrev cX1_scoreOf : ByteArray := prog_3_method_17_code
def yX1_scoreOf : MethodName := ⟨RX1, "scoreOf", "(I)I"⟩
abbrev cX1_placeOf : ByteArray := prog_3_method_18_code
def yX1_placeOf : MethodName := ⟨RX1, "placeOf", "(I)I"⟩
abbrev cX1_isLaid : ByteArray := prog_3_method_19_code
def yX1_isLaid : MethodName := ⟨RX1, "isLaid", "(I)Z"⟩
abbrev cX1_frontOf : ByteArray := prog_3_method_20_code
def yX1_frontOf : MethodName := ⟨RX1, "frontOf", "(I)I"⟩
abbrev cX1_backOf : ByteArray := prog_3_method_21_code
def yX1_backOf : MethodName := ⟨RX1, "backOf", "(I)I"⟩
abbrev cX1_trainLength : ByteArray := prog_3_method_22_code
def yX1_trainLength : MethodName := ⟨RX1, "trainLength", "()I"⟩
abbrev cX1_stoneInTrain : ByteArray := prog_3_method_23_code
def yX1_stoneInTrain : MethodName := ⟨RX1, "stoneInTrain", "(I)I"⟩
abbrev cX1_isRing : ByteArray := prog_3_method_24_code
def yX1_isRing : MethodName := ⟨RX1, "isRing", "()Z"⟩
abbrev cX1_setRing : ByteArray := prog_3_method_25_code
def yX1_setRing : MethodName := ⟨RX1, "setRing", "(Z)V"⟩
abbrev cX1_drawIs : ByteArray := prog_3_method_26_code
def yX1_drawIs : MethodName := ⟨RX1, "drawIs", "()I"⟩
abbrev cX1_setDraw : ByteArray := prog_3_method_27_code
def yX1_setDraw : MethodName := ⟨RX1, "setDraw", "(I)V"⟩
abbrev cX1_lastTeeth : ByteArray := prog_3_method_28_code
def yX1_lastTeeth : MethodName := ⟨RX1, "lastTeeth", "()I"⟩
abbrev cX1_areNear : ByteArray := prog_3_method_29_code
def yX1_areNear : MethodName := ⟨RX1, "areNear", "(II)Z"⟩
abbrev cX1_fits : ByteArray := prog_3_method_30_code
def yX1_fits : MethodName := ⟨RX1, "fits", "(II)Z"⟩
abbrev cX1_mayLay : ByteArray := prog_3_method_31_code
def yX1_mayLay : MethodName := ⟨RX1, "mayLay", "(II)Z"⟩
abbrev cX1_canBeRing : ByteArray := prog_3_method_32_code
def yX1_canBeRing : MethodName := ⟨RX1, "canBeRing", "()Z"⟩
abbrev cX1_layDown : ByteArray := prog_3_method_33_code
def yX1_layDown : MethodName := ⟨RX1, "layDown", "(II)I"⟩
abbrev cX1_scoreNow : ByteArray := prog_3_method_34_code
def yX1_scoreNow : MethodName := ⟨RX1, "scoreNow", "()I"⟩
abbrev cX1_upMarks : ByteArray := prog_3_method_35_code
def yX1_upMarks : MethodName := ⟨RX1, "upMarks", "()I"⟩
abbrev cX1_liftLast : ByteArray := prog_3_method_36_code
def yX1_liftLast : MethodName := ⟨RX1, "liftLast", "(I)V"⟩
abbrev cX1_backWay : ByteArray := prog_3_method_37_code
def yX1_backWay : MethodName := ⟨RX1, "backWay", "(II)I"⟩
abbrev cX1_backWayAt : ByteArray := prog_3_method_38_code
def yX1_backWayAt : MethodName := ⟨RX1, "backWayAt", "(I)I"⟩
abbrev cX1_lastBackWay : ByteArray := prog_3_method_39_code
def yX1_lastBackWay : MethodName := ⟨RX1, "lastBackWay", "()I"⟩
abbrev cX1_lockOf : ByteArray := prog_3_method_40_code
def yX1_lockOf : MethodName := ⟨RX1, "lockOf", "(I)I"⟩
abbrev cX1_hasPawl : ByteArray := prog_3_method_41_code
def yX1_hasPawl : MethodName := ⟨RX1, "hasPawl", "(I)Z"⟩
abbrev cX1_turnTrain : ByteArray := prog_3_method_42_code
def yX1_turnTrain : MethodName := ⟨RX1, "turnTrain", "(I)V"⟩
abbrev cX1_turnWheel : ByteArray := prog_3_method_43_code
def yX1_turnWheel : MethodName := ⟨RX1, "turnWheel", "(III)V"⟩
abbrev cX1_remainder : ByteArray := prog_3_method_44_code
def yX1_remainder : MethodName := ⟨RX1, "remainder", "(II)I"⟩
abbrev cX1_teethAround : ByteArray := prog_3_method_45_code
def yX1_teethAround : MethodName := ⟨RX1, "teethAround", "()I"⟩
abbrev cX1_commonMultiple : ByteArray := prog_3_method_46_code
def yX1_commonMultiple : MethodName := ⟨RX1, "commonMultiple", "(II)I"⟩
abbrev cX1_teethUntilUp : ByteArray := prog_3_method_47_code
def yX1_teethUntilUp : MethodName := ⟨RX1, "teethUntilUp", "()I"⟩
abbrev cX1_firstUp : ByteArray := prog_3_method_48_code
def yX1_firstUp : MethodName := ⟨RX1, "firstUp", "(IIIII)I"⟩
abbrev cX1_teethUntilPoint : ByteArray := prog_3_method_49_code
def yX1_teethUntilPoint : MethodName := ⟨RX1, "teethUntilPoint", "(II)I"⟩
abbrev cX1_layDrawn : ByteArray := prog_3_method_50_code
def yX1_layDrawn : MethodName := ⟨RX1, "layDrawn", "(I)Z"⟩
abbrev cX1_countLays : ByteArray := prog_3_method_51_code
def yX1_countLays : MethodName := ⟨RX1, "countLays", "(I)I"⟩
def RX2 : String := "ToothStones$Tape"
def TX2 : u_T := fun k => match k with
  | 0 => ("ToothStones$Tape", "bytes", "[I", true)
  | 1 => ("ToothStones$Tape", "length", "I", false)
  | _ => ("ToothStones$Tape", "place", "I", false)
def tyX2 : Nat → FieldType := fun k => match k with
  | 0 => .array .int
  | 1 => .int
  | _ => .int
abbrev wsX20 : List Cond := u_ws RX2 TX2 3
theorem nmX2 : ∀ a, a < 3 → ∀ b, b < 3 → a ≠ b → (TX2 a).2.1 ≠ (TX2 b).2.1 := by decide +kernel
theorem tyX2_ok : ∀ k, k < 3 → parseFieldDescriptor (TX2 k).2.2.1 = some (tyX2 k) := by decide +kernel
abbrev cX2_init : ByteArray := prog_4_method_1_code
def yX2_init : MethodName := ⟨RX2, "<init>", "()V"⟩
abbrev cX2_length : ByteArray := prog_4_method_2_code
def yX2_length : MethodName := ⟨RX2, "length", "()I"⟩
abbrev cX2_addByte : ByteArray := prog_4_method_3_code
def yX2_addByte : MethodName := ⟨RX2, "addByte", "(I)V"⟩
abbrev cX2_empty : ByteArray := prog_4_method_4_code
def yX2_empty : MethodName := ⟨RX2, "empty", "()V"⟩
abbrev cX2_readTo : ByteArray := prog_4_method_5_code
def yX2_readTo : MethodName := ⟨RX2, "readTo", "(LToothStones$Table;)I"⟩
abbrev cX2_stepOn : ByteArray := prog_4_method_6_code
def yX2_stepOn : MethodName := ⟨RX2, "stepOn", "()V"⟩
abbrev cX2_readStone : ByteArray := prog_4_method_7_code
def yX2_readStone : MethodName := ⟨RX2, "readStone", "(LToothStones$Table;)Z"⟩
abbrev cX2_readMark : ByteArray := prog_4_method_8_code
def yX2_readMark : MethodName := ⟨RX2, "readMark", "(LToothStones$Table;II)Z"⟩
abbrev cX2_readKind : ByteArray := prog_4_method_9_code
def yX2_readKind : MethodName := ⟨RX2, "readKind", "()I"⟩
abbrev cX2_readDigit : ByteArray := prog_4_method_10_code
def yX2_readDigit : MethodName := ⟨RX2, "readDigit", "(II)I"⟩
abbrev cX2_readSign : ByteArray := prog_4_method_11_code
def yX2_readSign : MethodName := ⟨RX2, "readSign", "(C)Z"⟩
def RX3 : String := "ToothStones"
def TX3 : u_T := fun k => match k with
  | 0 => ("ToothStones", "table", "LToothStones$Table;", true)
  | 1 => ("ToothStones", "kept", "LToothStones$Table;", true)
  | 2 => ("ToothStones", "isKept", "Z", false)
  | 3 => ("ToothStones", "trial", "LToothStones$Table;", true)
  | 4 => ("ToothStones", "answerTrial", "LToothStones$Table;", true)
  | 5 => ("ToothStones", "tape", "LToothStones$Tape;", true)
  | 6 => ("ToothStones", "sheets", "[LToothStones$Sheet;", true)
  | 7 => ("ToothStones", "order", "[I", true)
  | _ => ("ToothStones", "firstOrder", "[I", true)
def tyX3 : Nat → FieldType := fun k => match k with
  | 0 => .object "ToothStones$Table"
  | 1 => .object "ToothStones$Table"
  | 2 => .boolean
  | 3 => .object "ToothStones$Table"
  | 4 => .object "ToothStones$Table"
  | 5 => .object "ToothStones$Tape"
  | 6 => .array (.object "ToothStones$Sheet")
  | 7 => .array .int
  | _ => .array .int
abbrev wsX30 : List Cond := u_ws RX3 TX3 9
theorem nmX3 : ∀ a, a < 9 → ∀ b, b < 9 → a ≠ b → (TX3 a).2.1 ≠ (TX3 b).2.1 := by decide +kernel
theorem tyX3_ok : ∀ k, k < 9 → parseFieldDescriptor (TX3 k).2.2.1 = some (tyX3 k) := by decide +kernel
abbrev cX3_init : ByteArray := prog_1_method_1_code
def yX3_init : MethodName := ⟨RX3, "<init>", "()V"⟩
abbrev cX3_stone : ByteArray := prog_1_method_2_code
def yX3_stone : MethodName := ⟨RX3, "stone", "(III)I"⟩
abbrev cX3_mark : ByteArray := prog_1_method_3_code
def yX3_mark : MethodName := ⟨RX3, "mark", "(III)I"⟩
abbrev cX3_told : ByteArray := prog_1_method_4_code
def yX3_told : MethodName := ⟨RX3, "told", "(II)I"⟩
abbrev cX3_deal : ByteArray := prog_1_method_5_code
def yX3_deal : MethodName := ⟨RX3, "deal", "(II)I"⟩
abbrev cX3_type : ByteArray := prog_1_method_6_code
def yX3_type : MethodName := ⟨RX3, "type", "(JI)I"⟩
abbrev cX3_stones : ByteArray := prog_1_method_7_code
def yX3_stones : MethodName := ⟨RX3, "stones", "()I"⟩
abbrev cX3_count : ByteArray := prog_1_method_8_code
def yX3_count : MethodName := ⟨RX3, "count", "(I)I"⟩
abbrev cX3_may : ByteArray := prog_1_method_9_code
def yX3_may : MethodName := ⟨RX3, "may", "(II)I"⟩
abbrev cX3_lay : ByteArray := prog_1_method_10_code
def yX3_lay : MethodName := ⟨RX3, "lay", "(II)I"⟩
abbrev cX3_take : ByteArray := prog_1_method_11_code
def yX3_take : MethodName := ⟨RX3, "take", "(I)I"⟩
abbrev cX3_shut : ByteArray := prog_1_method_12_code
def yX3_shut : MethodName := ⟨RX3, "shut", "(Z)I"⟩
abbrev cX3_locked : ByteArray := prog_1_method_13_code
def yX3_locked : MethodName := ⟨RX3, "locked", "()I"⟩
abbrev cX3_crank : ByteArray := prog_1_method_14_code
def yX3_crank : MethodName := ⟨RX3, "crank", "(I)I"⟩
abbrev cX3_around : ByteArray := prog_1_method_15_code
def yX3_around : MethodName := ⟨RX3, "around", "()I"⟩
abbrev cX3_up : ByteArray := prog_1_method_16_code
def yX3_up : MethodName := ⟨RX3, "up", "()I"⟩
abbrev cX3_best : ByteArray := prog_1_method_17_code
def yX3_best : MethodName := ⟨RX3, "best", "(II)I"⟩
abbrev cX3_point : ByteArray := prog_1_method_18_code
def yX3_point : MethodName := ⟨RX3, "point", "(II)I"⟩
abbrev cX3_match : ByteArray := prog_1_method_19_code
def yX3_match : MethodName := ⟨RX3, "match", "(I)I"⟩
abbrev cX3_seed : ByteArray := prog_1_method_20_code
def yX3_seed : MethodName := ⟨RX3, "seed", "(I)I"⟩
abbrev cX3_image : ByteArray := prog_1_method_21_code
def yX3_image : MethodName := ⟨RX3, "image", "()I"⟩
abbrev cX3_restore : ByteArray := prog_1_method_22_code
def yX3_restore : MethodName := ⟨RX3, "restore", "()I"⟩
abbrev cX3_judged : ByteArray := prog_1_method_23_code
def yX3_judged : MethodName := ⟨RX3, "judged", "(IIII)I"⟩
abbrev cX3_orders : ByteArray := prog_1_method_24_code
def yX3_orders : MethodName := ⟨RX3, "orders", "(IIIII)I"⟩
abbrev cX3_sheet : ByteArray := prog_1_method_25_code
def yX3_sheet : MethodName := ⟨RX3, "sheet", "(III)I"⟩
abbrev cX3_drop : ByteArray := prog_1_method_26_code
def yX3_drop : MethodName := ⟨RX3, "drop", "(I)I"⟩
abbrev cX3_item : ByteArray := prog_1_method_27_code
def yX3_item : MethodName := ⟨RX3, "item", "(IIII)I"⟩
abbrev cX3_film : ByteArray := prog_1_method_28_code
def yX3_film : MethodName := ⟨RX3, "film", "(III)I"⟩
abbrev cX3_isWithin : ByteArray := prog_1_method_29_code
def yX3_isWithin : MethodName := ⟨RX3, "isWithin", "(III)Z"⟩
abbrev cX3_isTeeth : ByteArray := prog_1_method_30_code
def yX3_isTeeth : MethodName := ⟨RX3, "isTeeth", "(I)Z"⟩
abbrev cX3_isWheel : ByteArray := prog_1_method_31_code
def yX3_isWheel : MethodName := ⟨RX3, "isWheel", "(I)Z"⟩
abbrev cX3_isHand : ByteArray := prog_1_method_32_code
def yX3_isHand : MethodName := ⟨RX3, "isHand", "(I)Z"⟩
abbrev cX3_isLane : ByteArray := prog_1_method_33_code
def yX3_isLane : MethodName := ⟨RX3, "isLane", "(I)Z"⟩
abbrev cX3_lowByte : ByteArray := prog_1_method_34_code
def yX3_lowByte : MethodName := ⟨RX3, "lowByte", "(JI)I"⟩
abbrev cX3_sheetAt : ByteArray := prog_1_method_35_code
def yX3_sheetAt : MethodName := ⟨RX3, "sheetAt", "(I)LToothStones$Sheet;"⟩
abbrev cX3_crankRefusal : ByteArray := prog_1_method_36_code
def yX3_crankRefusal : MethodName := ⟨RX3, "crankRefusal", "()I"⟩
abbrev cX3_worthOf : ByteArray := prog_1_method_37_code
def yX3_worthOf : MethodName := ⟨RX3, "worthOf", "(II)I"⟩
abbrev cX3_firstThatMayNot : ByteArray := prog_1_method_38_code
def yX3_firstThatMayNot : MethodName := ⟨RX3, "firstThatMayNot", "(LToothStones$Sheet;II)I"⟩
abbrev cX3_countOrders : ByteArray := prog_1_method_39_code
def yX3_countOrders : MethodName := ⟨RX3, "countOrders", "(IILToothStones$Sheet;I)I"⟩
abbrev cX3_startOrder : ByteArray := prog_1_method_40_code
def yX3_startOrder : MethodName := ⟨RX3, "startOrder", "(I)V"⟩
abbrev cX3_nextOrder : ByteArray := prog_1_method_41_code
def yX3_nextOrder : MethodName := ⟨RX3, "nextOrder", "(I)Z"⟩
abbrev cX3_swapInOrder : ByteArray := prog_1_method_42_code
def yX3_swapInOrder : MethodName := ⟨RX3, "swapInOrder", "(II)V"⟩
abbrev cX3_bringsMarks : ByteArray := prog_1_method_43_code
def yX3_bringsMarks : MethodName := ⟨RX3, "bringsMarks", "(IILToothStones$Sheet;I)Z"⟩
abbrev cX3_isIn : ByteArray := prog_1_method_44_code
def yX3_isIn : MethodName := ⟨RX3, "isIn", "(II)Z"⟩
abbrev cX3_at : ByteArray := prog_1_method_45_code
def yX3_at : MethodName := ⟨RX3, "at", "([II)I"⟩
abbrev cX3_put : ByteArray := prog_1_method_46_code
def yX3_put : MethodName := ⟨RX3, "put", "([III)V"⟩
abbrev cX3_copyRow : ByteArray := prog_1_method_47_code
def yX3_copyRow : MethodName := ⟨RX3, "copyRow", "([I[I)V"⟩
def RX4 : String := "ToothStonesModel"
def TX4 : u_T := fun k => match k with
  | 0 => ("ToothStonesModel", "z", "[I", true)
  | 1 => ("ToothStonesModel", "many", "I", false)
  | 2 => ("ToothStonesModel", "train", "[I", true)
  | 3 => ("ToothStonesModel", "fronts", "[I", true)
  | 4 => ("ToothStonesModel", "size", "I", false)
  | 5 => ("ToothStonesModel", "scores", "[I", true)
  | 6 => ("ToothStonesModel", "ring", "Z", false)
  | 7 => ("ToothStonesModel", "drawn", "I", false)
  | 8 => ("ToothStonesModel", "tape", "[I", true)
  | 9 => ("ToothStonesModel", "taped", "I", false)
  | 10 => ("ToothStonesModel", "place", "I", false)
  | 11 => ("ToothStonesModel", "reads", "I", false)
  | 12 => ("ToothStonesModel", "read", "[I", true)
  | 13 => ("ToothStonesModel", "frontWays", "[I", true)
  | 14 => ("ToothStonesModel", "backWays", "[I", true)
  | 15 => ("ToothStonesModel", "had", "[I", true)
  | 16 => ("ToothStonesModel", "hadDeep", "[I", true)
  | 17 => ("ToothStonesModel", "isKept", "Z", false)
  | 18 => ("ToothStonesModel", "kept", "[I", true)
  | 19 => ("ToothStonesModel", "keptTrain", "[I", true)
  | 20 => ("ToothStonesModel", "keptCounts", "[I", true)
  | 21 => ("ToothStonesModel", "lanes", "[I", true)
  | 22 => ("ToothStonesModel", "rowSizes", "[I", true)
  | 23 => ("ToothStonesModel", "items", "[I", true)
  | 24 => ("ToothStonesModel", "some", "[I", true)
  | 25 => ("ToothStonesModel", "first", "[I", true)
  | 26 => ("ToothStonesModel", "hadTrain", "[I", true)
  | _ => ("ToothStonesModel", "someMany", "I", false)
def tyX4 : Nat → FieldType := fun k => match k with
  | 0 => .array .int
  | 1 => .int
  | 2 => .array .int
  | 3 => .array .int
  | 4 => .int
  | 5 => .array .int
  | 6 => .boolean
  | 7 => .int
  | 8 => .array .int
  | 9 => .int
  | 10 => .int
  | 11 => .int
  | 12 => .array .int
  | 13 => .array .int
  | 14 => .array .int
  | 15 => .array .int
  | 16 => .array .int
  | 17 => .boolean
  | 18 => .array .int
  | 19 => .array .int
  | 20 => .array .int
  | 21 => .array .int
  | 22 => .array .int
  | 23 => .array .int
  | 24 => .array .int
  | 25 => .array .int
  | 26 => .array .int
  | _ => .int
abbrev wsX40 : List Cond := u_ws RX4 TX4 28
theorem nmX4 : ∀ a, a < 28 → ∀ b, b < 28 → a ≠ b → (TX4 a).2.1 ≠ (TX4 b).2.1 := by decide +kernel
theorem tyX4_ok : ∀ k, k < 28 → parseFieldDescriptor (TX4 k).2.2.1 = some (tyX4 k) := by decide +kernel
abbrev cX4_init : ByteArray := prog_6_method_1_code
def yX4_init : MethodName := ⟨RX4, "<init>", "()V"⟩
abbrev cX4_in : ByteArray := prog_6_method_2_code
def yX4_in : MethodName := ⟨RX4, "in", "(JJJ)Z"⟩
abbrev cX4_isStone : ByteArray := prog_6_method_3_code
def yX4_isStone : MethodName := ⟨RX4, "isStone", "(I)Z"⟩
abbrev cX4_teeth : ByteArray := prog_6_method_4_code
def yX4_teeth : MethodName := ⟨RX4, "teeth", "(II)I"⟩
abbrev cX4_add : ByteArray := prog_6_method_5_code
def yX4_add : MethodName := ⟨RX4, "add", "(IIIII)V"⟩
abbrev cX4_stone : ByteArray := prog_6_method_6_code
def yX4_stone : MethodName := ⟨RX4, "stone", "(III)I"⟩
abbrev cX4_mark : ByteArray := prog_6_method_7_code
def yX4_mark : MethodName := ⟨RX4, "mark", "(III)I"⟩
abbrev cX4_placeOf : ByteArray := prog_6_method_8_code
def yX4_placeOf : MethodName := ⟨RX4, "placeOf", "(I)I"⟩
abbrev cX4_told : ByteArray := prog_6_method_9_code
def yX4_told : MethodName := ⟨RX4, "told", "(II)I"⟩
abbrev cX4_deal : ByteArray := prog_6_method_10_code
def yX4_deal : MethodName := ⟨RX4, "deal", "(II)I"⟩
abbrev cX4_type : ByteArray := prog_6_method_11_code
def yX4_type : MethodName := ⟨RX4, "type", "(JI)I"⟩
abbrev cX4_nextByte : ByteArray := prog_6_method_12_code
def yX4_nextByte : MethodName := ⟨RX4, "nextByte", "()I"⟩
abbrev cX4_readDigit : ByteArray := prog_6_method_13_code
def yX4_readDigit : MethodName := ⟨RX4, "readDigit", "(III)Z"⟩
abbrev cX4_readStone : ByteArray := prog_6_method_14_code
def yX4_readStone : MethodName := ⟨RX4, "readStone", "(I)Z"⟩
abbrev cX4_readStones : ByteArray := prog_6_method_15_code
def yX4_readStones : MethodName := ⟨RX4, "readStones", "()Z"⟩
abbrev cX4_stones : ByteArray := prog_6_method_16_code
def yX4_stones : MethodName := ⟨RX4, "stones", "()I"⟩
abbrev cX4_isPawled : ByteArray := prog_6_method_17_code
def yX4_isPawled : MethodName := ⟨RX4, "isPawled", "(I)Z"⟩
abbrev cX4_findWays : ByteArray := prog_6_method_18_code
def yX4_findWays : MethodName := ⟨RX4, "findWays", "(I)V"⟩
abbrev cX4_lockedAt : ByteArray := prog_6_method_19_code
def yX4_lockedAt : MethodName := ⟨RX4, "lockedAt", "()I"⟩
abbrev cX4_isOdd : ByteArray := prog_6_method_20_code
def yX4_isOdd : MethodName := ⟨RX4, "isOdd", "()Z"⟩
abbrev cX4_isLocked : ByteArray := prog_6_method_21_code
def yX4_isLocked : MethodName := ⟨RX4, "isLocked", "()Z"⟩
abbrev cX4_wayForBack : ByteArray := prog_6_method_22_code
def yX4_wayForBack : MethodName := ⟨RX4, "wayForBack", "()I"⟩
abbrev cX4_round : ByteArray := prog_6_method_23_code
def yX4_round : MethodName := ⟨RX4, "round", "(III)I"⟩
abbrev cX4_turnAll : ByteArray := prog_6_method_24_code
def yX4_turnAll : MethodName := ⟨RX4, "turnAll", "(I)V"⟩
abbrev cX4_upMarks : ByteArray := prog_6_method_25_code
def yX4_upMarks : MethodName := ⟨RX4, "upMarks", "()I"⟩
abbrev cX4_count : ByteArray := prog_6_method_26_code
def yX4_count : MethodName := ⟨RX4, "count", "(I)I"⟩
abbrev cX4_mesh : ByteArray := prog_6_method_27_code
def yX4_mesh : MethodName := ⟨RX4, "mesh", "(II)Z"⟩
abbrev cX4_mayLay : ByteArray := prog_6_method_28_code
def yX4_mayLay : MethodName := ⟨RX4, "mayLay", "(II)Z"⟩
abbrev cX4_may : ByteArray := prog_6_method_29_code
def yX4_may : MethodName := ⟨RX4, "may", "(II)I"⟩
abbrev cX4_put : ByteArray := prog_6_method_30_code
def yX4_put : MethodName := ⟨RX4, "put", "(II)I"⟩
abbrev cX4_layOne : ByteArray := prog_6_method_31_code
def yX4_layOne : MethodName := ⟨RX4, "layOne", "(II)I"⟩
abbrev cX4_lay : ByteArray := prog_6_method_32_code
def yX4_lay : MethodName := ⟨RX4, "lay", "(II)I"⟩
abbrev cX4_take : ByteArray := prog_6_method_33_code
def yX4_take : MethodName := ⟨RX4, "take", "(I)I"⟩
abbrev cX4_shut : ByteArray := prog_6_method_34_code
def yX4_shut : MethodName := ⟨RX4, "shut", "(Z)I"⟩
abbrev cX4_locked : ByteArray := prog_6_method_35_code
def yX4_locked : MethodName := ⟨RX4, "locked", "()I"⟩
abbrev cX4_crank : ByteArray := prog_6_method_36_code
def yX4_crank : MethodName := ⟨RX4, "crank", "(I)I"⟩
abbrev cX4_isForwardLocked : ByteArray := prog_6_method_37_code
def yX4_isForwardLocked : MethodName := ⟨RX4, "isForwardLocked", "()Z"⟩
abbrev cX4_common : ByteArray := prog_6_method_38_code
def yX4_common : MethodName := ⟨RX4, "common", "(II)I"⟩
abbrev cX4_roundOf : ByteArray := prog_6_method_39_code
def yX4_roundOf : MethodName := ⟨RX4, "roundOf", "()I"⟩
abbrev cX4_around : ByteArray := prog_6_method_40_code
def yX4_around : MethodName := ⟨RX4, "around", "()I"⟩
abbrev cX4_teethTo : ByteArray := prog_6_method_41_code
def yX4_teethTo : MethodName := ⟨RX4, "teethTo", "(IIII)I"⟩
abbrev cX4_isUpBehind : ByteArray := prog_6_method_42_code
def yX4_isUpBehind : MethodName := ⟨RX4, "isUpBehind", "(I)Z"⟩
abbrev cX4_up : ByteArray := prog_6_method_43_code
def yX4_up : MethodName := ⟨RX4, "up", "()I"⟩
abbrev cX4_point : ByteArray := prog_6_method_44_code
def yX4_point : MethodName := ⟨RX4, "point", "(II)I"⟩
abbrev cX4_keepIn : ByteArray := prog_6_method_45_code
def yX4_keepIn : MethodName := ⟨RX4, "keepIn", "([I)V"⟩
abbrev cX4_bringBack : ByteArray := prog_6_method_46_code
def yX4_bringBack : MethodName := ⟨RX4, "bringBack", "([II)V"⟩
abbrev cX4_greatestOf : ByteArray := prog_6_method_47_code
def yX4_greatestOf : MethodName := ⟨RX4, "greatestOf", "(I)I"⟩
abbrev cX4_best : ByteArray := prog_6_method_48_code
def yX4_best : MethodName := ⟨RX4, "best", "(II)I"⟩
abbrev cX4_laysOf : ByteArray := prog_6_method_49_code
def yX4_laysOf : MethodName := ⟨RX4, "laysOf", "(II)I"⟩
abbrev cX4_match : ByteArray := prog_6_method_50_code
def yX4_match : MethodName := ⟨RX4, "match", "(I)I"⟩
abbrev cX4_seed : ByteArray := prog_6_method_51_code
def yX4_seed : MethodName := ⟨RX4, "seed", "(I)I"⟩
abbrev cX4_image : ByteArray := prog_6_method_52_code
def yX4_image : MethodName := ⟨RX4, "image", "()I"⟩
abbrev cX4_restore : ByteArray := prog_6_method_53_code
def yX4_restore : MethodName := ⟨RX4, "restore", "()I"⟩
abbrev cX4_isSheet : ByteArray := prog_6_method_54_code
def yX4_isSheet : MethodName := ⟨RX4, "isSheet", "(II)Z"⟩
abbrev cX4_sheet : ByteArray := prog_6_method_55_code
def yX4_sheet : MethodName := ⟨RX4, "sheet", "(III)I"⟩
abbrev cX4_drop : ByteArray := prog_6_method_56_code
def yX4_drop : MethodName := ⟨RX4, "drop", "(I)I"⟩
abbrev cX4_lacksRow : ByteArray := prog_6_method_57_code
def yX4_lacksRow : MethodName := ⟨RX4, "lacksRow", "(IIII)I"⟩
abbrev cX4_item : ByteArray := prog_6_method_58_code
def yX4_item : MethodName := ⟨RX4, "item", "(IIII)I"⟩
abbrev cX4_judged : ByteArray := prog_6_method_59_code
def yX4_judged : MethodName := ⟨RX4, "judged", "(IIII)I"⟩
abbrev cX4_nextOrder : ByteArray := prog_6_method_60_code
def yX4_nextOrder : MethodName := ⟨RX4, "nextOrder", "()Z"⟩
abbrev cX4_brings : ByteArray := prog_6_method_61_code
def yX4_brings : MethodName := ⟨RX4, "brings", "(II)Z"⟩
abbrev cX4_countOrders : ByteArray := prog_6_method_62_code
def yX4_countOrders : MethodName := ⟨RX4, "countOrders", "(II)I"⟩
abbrev cX4_orders : ByteArray := prog_6_method_63_code
def yX4_orders : MethodName := ⟨RX4, "orders", "(IIIII)I"⟩
abbrev cX4_film : ByteArray := prog_6_method_64_code
def yX4_film : MethodName := ⟨RX4, "film", "(III)I"⟩
def RJ6 : String := "java/lang/Integer"
def TJ6 : u_T := fun k => match k with
  | _ => ("", "", "", false)
def tyJ6 : Nat → FieldType := fun k => match k with
  | _ => .int
abbrev wsJ60 : List Cond := u_ws RJ6 TJ6 0
theorem nmJ6 : ∀ a, a < 0 → ∀ b, b < 0 → a ≠ b → (TJ6 a).2.1 ≠ (TJ6 b).2.1 := by decide +kernel
theorem tyJ6_ok : ∀ k, k < 0 → parseFieldDescriptor (TJ6 k).2.2.1 = some (tyJ6 k) := by decide +kernel
abbrev cJ6_bitCount_0f7a4 : ByteArray := prog_7_method_49_code
def yJ6_bitCount_0f7a4 : MethodName := ⟨RJ6, "bitCount", "(I)I"⟩
def RJ9 : String := "java/lang/Math"
def TJ9 : u_T := fun k => match k with
  | _ => ("", "", "", false)
def tyJ9 : Nat → FieldType := fun k => match k with
  | _ => .int
abbrev wsJ90 : List Cond := u_ws RJ9 TJ9 0
theorem nmJ9 : ∀ a, a < 0 → ∀ b, b < 0 → a ≠ b → (TJ9 a).2.1 ≠ (TJ9 b).2.1 := by decide +kernel
theorem tyJ9_ok : ∀ k, k < 0 → parseFieldDescriptor (TJ9 k).2.2.1 = some (tyJ9 k) := by decide +kernel
abbrev cJ9_floorMod_7cf53 : ByteArray := prog_8_method_50_code
def yJ9_floorMod_7cf53 : MethodName := ⟨RJ9, "floorMod", "(II)I"⟩
abbrev cJ9_abs_0f7a4 : ByteArray := prog_8_method_59_code
def yJ9_abs_0f7a4 : MethodName := ⟨RJ9, "abs", "(I)I"⟩
abbrev cJ9_max_7cf53 : ByteArray := prog_8_method_65_code
def yJ9_max_7cf53 : MethodName := ⟨RJ9, "max", "(II)I"⟩
abbrev cJ9_min_7cf53 : ByteArray := prog_8_method_69_code
def yJ9_min_7cf53 : MethodName := ⟨RJ9, "min", "(II)I"⟩
def RJ10 : String := "java/lang/System"
def TJ10 : u_T := fun k => match k with
  | _ => ("", "", "", false)
def tyJ10 : Nat → FieldType := fun k => match k with
  | _ => .int
abbrev wsJ100 : List Cond := u_ws RJ10 TJ10 0
theorem nmJ10 : ∀ a, a < 0 → ∀ b, b < 0 → a ≠ b → (TJ10 a).2.1 ≠ (TJ10 b).2.1 := by decide +kernel
theorem tyJ10_ok : ∀ k, k < 0 → parseFieldDescriptor (TJ10 k).2.2.1 = some (tyJ10 k) := by decide +kernel
def RL : String := "ToothStonesLaw"
abbrev cL_law : ByteArray := code
def yL_law : MethodName := ⟨RL, "law", "([I)Z"⟩
abbrev vwCl : List vw_C := [(RX0, TX0, 4), (RX1, TX1, 12), (RX2, TX2, 3), (RX3, TX3, 9), (RX4, TX4, 28)]
end
section
/-! the code of the methods: a row an instruction (its place in the bytes, itself, its links) -/
abbrev zM := Nat → Nat → Int32
abbrev zE := Nat ⊕ ((Nat × List (Option Nat)) ⊕ List Nat)
abbrev zR := Nat × Instr × List Nat
def zk_0 : List zR := [(0, .aload_n 0, []), (1, .getfield 15, [0, 1, 140]), (4, .ifCond .ne 7, [5]), (7, .iconst 1, []), (8, .goto 4, [6]), (11, .iconst 0, []), (12, .ireturn, [])]
def zk_1 : List zR := [(0, .aload_n 0, []), (1, .iconst 1, []), (2, .putfield 15, [0, 1, 140]), (5, .aload_n 0, []), (6, .iload_n 1, []), (7, .putfield 19, [0, 2, 141]), (10, .aload_n 0, []), (11, .iload_n 2, []), (12, .putfield 23, [0, 3, 142]), (15, .iconst 0, []), (16, .istore_n 3, []), (17, .iload_n 3, []), (18, .bipush 24, []), (20, .if_icmp .ge 18, [21]), (23, .aload_n 0, []), (24, .getfield 9, [0, 0, 139]), (27, .iload_n 3, []), (28, .iconst 0, []), (29, .invokestatic 26, [110, 645, 199]), (32, .iinc 3 1, []), (35, .goto (-18), [11]), (38, .return_, [])]
def zk_2 : List zR := [(0, .aload_n 0, []), (1, .iconst 0, []), (2, .putfield 15, [0, 1, 140]), (5, .aload_n 0, []), (6, .getfield 23, [0, 3, 142]), (9, .ireturn, [])]
def zk_3 : List zR := [(0, .aload_n 0, []), (1, .getfield 15, [0, 1, 140]), (4, .ifCond .ne 6, [5]), (7, .bipush (-11), []), (9, .ireturn, []), (10, .iload_n 1, []), (11, .aload_n 0, []), (12, .getfield 19, [0, 2, 141]), (15, .if_icmp .eq 6, [11]), (18, .bipush (-12), []), (20, .ireturn, []), (21, .iload_n 2, []), (22, .ifCond .lt 13, [19]), (25, .iload_n 2, []), (26, .aload_n 0, []), (27, .getfield 23, [0, 3, 142]), (30, .iload_n 3, []), (31, .isub, []), (32, .if_icmp .le 8, [21]), (35, .bipush (-13), []), (37, .goto 4, [22]), (40, .iconst 0, []), (41, .ireturn, [])]
def zk_4 : List zR := [(0, .aload_n 0, []), (1, .getfield 9, [0, 0, 139]), (4, .iload_n 1, []), (5, .invokestatic 30, [109, 592, 225]), (8, .ireturn, [])]
def zk_5 : List zR := [(0, .aload_n 0, []), (1, .getfield 9, [0, 0, 139]), (4, .iload_n 1, []), (5, .aload_n 0, []), (6, .getfield 19, [0, 2, 141]), (9, .ifCond .ne 8, [9]), (12, .iload_n 2, []), (13, .i2b, []), (14, .goto 17, [17]), (17, .aload_n 0, []), (18, .getfield 19, [0, 2, 141]), (21, .iconst 1, []), (22, .if_icmp .ne 8, [16]), (25, .iload_n 2, []), (26, .i2s, []), (27, .goto 4, [17]), (30, .iload_n 2, []), (31, .invokestatic 26, [110, 645, 199]), (34, .return_, [])]
def zk_6 : List zR := [(0, .aload_n 0, []), (1, .aload_n 1, []), (2, .getfield 40, [1, 0, 78]), (5, .putfield 40, [1, 0, 78]), (8, .aload_n 1, []), (9, .getfield 9, [1, 1, 79]), (12, .aload_n 0, []), (13, .getfield 9, [1, 1, 79]), (16, .invokestatic 43, [111, 289, 290]), (19, .aload_n 1, []), (20, .getfield 15, [1, 2, 80]), (23, .aload_n 0, []), (24, .getfield 15, [1, 2, 80]), (27, .invokestatic 43, [111, 289, 290]), (30, .aload_n 1, []), (31, .getfield 18, [1, 3, 81]), (34, .aload_n 0, []), (35, .getfield 18, [1, 3, 81]), (38, .invokestatic 43, [111, 289, 290]), (41, .aload_n 1, []), (42, .getfield 21, [1, 4, 82]), (45, .aload_n 0, []), (46, .getfield 21, [1, 4, 82]), (49, .invokestatic 43, [111, 289, 290]), (52, .aload_n 1, []), (53, .getfield 24, [1, 5, 83]), (56, .aload_n 0, []), (57, .getfield 24, [1, 5, 83]), (60, .invokestatic 43, [111, 289, 290]), (63, .aload_n 1, []), (64, .getfield 27, [1, 6, 84]), (67, .aload_n 0, []), (68, .getfield 27, [1, 6, 84]), (71, .invokestatic 43, [111, 289, 290]), (74, .aload_n 0, []), (75, .aload_n 1, []), (76, .getfield 47, [1, 7, 85]), (79, .putfield 47, [1, 7, 85]), (82, .aload_n 1, []), (83, .getfield 30, [1, 8, 86]), (86, .aload_n 0, []), (87, .getfield 30, [1, 8, 86]), (90, .invokestatic 43, [111, 289, 290]), (93, .aload_n 0, []), (94, .aload_n 1, []), (95, .getfield 50, [1, 9, 87]), (98, .putfield 50, [1, 9, 87]), (101, .aload_n 1, []), (102, .getfield 33, [1, 10, 88]), (105, .aload_n 0, []), (106, .getfield 33, [1, 10, 88]), (109, .invokestatic 43, [111, 289, 290]), (112, .aload_n 0, []), (113, .aload_n 1, []), (114, .getfield 36, [1, 11, 89]), (117, .putfield 36, [1, 11, 89]), (120, .return_, [])]
def zk_7 : List zR := [(0, .aload_n 0, []), (1, .iconst 0, []), (2, .putfield 40, [1, 0, 78]), (5, .aload_n 0, []), (6, .iconst 0, []), (7, .putfield 47, [1, 7, 85]), (10, .aload_n 0, []), (11, .iconst 0, []), (12, .putfield 50, [1, 9, 87]), (15, .aload_n 0, []), (16, .getfield 33, [1, 10, 88]), (19, .iconst 0, []), (20, .iconst 0, []), (21, .invokestatic 54, [110, 198, 199]), (24, .aload_n 0, []), (25, .getfield 33, [1, 10, 88]), (28, .iconst 1, []), (29, .iconst 0, []), (30, .invokestatic 54, [110, 198, 199]), (33, .return_, [])]
def zk_8 : List zR := [(0, .aload_n 0, []), (1, .getfield 40, [1, 0, 78]), (4, .bipush 12, []), (6, .if_icmp .lt 7, [6]), (9, .iconst 1, []), (10, .goto 4, [7]), (13, .iconst 0, []), (14, .ireturn, [])]
def zk_9 : List zR := [(0, .aload_n 0, []), (1, .getfield 40, [1, 0, 78]), (4, .istore 4, []), (6, .aload_n 0, []), (7, .getfield 9, [1, 1, 79]), (10, .iload 4, []), (12, .iload_n 1, []), (13, .invokestatic 54, [110, 198, 199]), (16, .aload_n 0, []), (17, .getfield 15, [1, 2, 80]), (20, .iconst 2, []), (21, .iload 4, []), (23, .imul, []), (24, .iload_n 2, []), (25, .invokestatic 54, [110, 198, 199]), (28, .aload_n 0, []), (29, .getfield 15, [1, 2, 80]), (32, .iconst 2, []), (33, .iload 4, []), (35, .imul, []), (36, .iconst 1, []), (37, .iadd, []), (38, .iload_n 3, []), (39, .invokestatic 54, [110, 198, 199]), (42, .aload_n 0, []), (43, .iload 4, []), (45, .iconst 0, []), (46, .iconst 0, []), (47, .invokevirtual 58, [17, 201, 202, 203]), (50, .aload_n 0, []), (51, .iload 4, []), (53, .iconst 1, []), (54, .iconst 0, []), (55, .invokevirtual 58, [17, 201, 202, 203]), (58, .aload_n 0, []), (59, .iload 4, []), (61, .invokevirtual 62, [10, 205, 207, 0]), (64, .aload_n 0, []), (65, .dup, []), (66, .getfield 40, [1, 0, 78]), (69, .iconst 1, []), (70, .iadd, []), (71, .putfield 40, [1, 0, 78]), (74, .iload 4, []), (76, .ireturn, [])]
def zk_10 : List zR := [(0, .aload_n 0, []), (1, .getfield 21, [1, 4, 82]), (4, .iload_n 1, []), (5, .bipush (-4), []), (7, .invokestatic 54, [110, 198, 199]), (10, .aload_n 0, []), (11, .getfield 24, [1, 5, 83]), (14, .iload_n 1, []), (15, .bipush (-4), []), (17, .invokestatic 54, [110, 198, 199]), (20, .aload_n 0, []), (21, .getfield 27, [1, 6, 84]), (24, .iload_n 1, []), (25, .bipush (-4), []), (27, .invokestatic 54, [110, 198, 199]), (30, .return_, [])]
def zk_11 : List zR := [(0, .aload_n 0, []), (1, .getfield 40, [1, 0, 78]), (4, .ireturn, [])]
def zk_12 : List zR := [(0, .iload_n 1, []), (1, .ifCond .lt 15, [8]), (4, .iload_n 1, []), (5, .aload_n 0, []), (6, .getfield 40, [1, 0, 78]), (9, .if_icmp .ge 7, [8]), (12, .iconst 1, []), (13, .goto 4, [9]), (16, .iconst 0, []), (17, .ireturn, [])]
def zk_13 : List zR := [(0, .iload_n 1, []), (1, .ifCond .lt 17, [10]), (4, .iload_n 1, []), (5, .iconst 1, []), (6, .aload_n 0, []), (7, .getfield 40, [1, 0, 78]), (10, .ishl, []), (11, .if_icmp .ge 7, [10]), (14, .iconst 1, []), (15, .goto 4, [11]), (18, .iconst 0, []), (19, .ireturn, [])]
def zk_14 : List zR := [(0, .aload_n 0, []), (1, .getfield 9, [1, 1, 79]), (4, .iload_n 1, []), (5, .invokestatic 66, [109, 224, 225]), (8, .ireturn, [])]
def zk_15 : List zR := [(0, .aload_n 0, []), (1, .getfield 15, [1, 2, 80]), (4, .iconst 2, []), (5, .iload_n 1, []), (6, .imul, []), (7, .iload_n 2, []), (8, .iadd, []), (9, .invokestatic 66, [109, 224, 225]), (12, .ireturn, [])]
def zk_16 : List zR := [(0, .aload_n 0, []), (1, .getfield 18, [1, 3, 81]), (4, .iconst 2, []), (5, .iload_n 1, []), (6, .imul, []), (7, .iload_n 2, []), (8, .iadd, []), (9, .invokestatic 66, [109, 224, 225]), (12, .ireturn, [])]
def zk_17 : List zR := [(0, .aload_n 0, []), (1, .getfield 18, [1, 3, 81]), (4, .iconst 2, []), (5, .iload_n 1, []), (6, .imul, []), (7, .iload_n 2, []), (8, .iadd, []), (9, .iload_n 3, []), (10, .invokestatic 54, [110, 198, 199]), (13, .return_, [])]
def zk_18 : List zR := [(0, .aload_n 0, []), (1, .getfield 21, [1, 4, 82]), (4, .iload_n 1, []), (5, .invokestatic 66, [109, 224, 225]), (8, .ireturn, [])]
def zk_19 : List zR := [(0, .aload_n 0, []), (1, .getfield 21, [1, 4, 82]), (4, .iload_n 1, []), (5, .iload_n 2, []), (6, .invokestatic 54, [110, 198, 199]), (9, .return_, [])]
def zk_20 : List zR := [(0, .iconst 0, []), (1, .istore_n 2, []), (2, .iconst 0, []), (3, .istore_n 3, []), (4, .iload_n 3, []), (5, .aload_n 0, []), (6, .getfield 40, [1, 0, 78]), (9, .if_icmp .ge 21, [16]), (12, .aload_n 0, []), (13, .iload_n 3, []), (14, .invokevirtual 70, [18, 356, 249, 250]), (17, .iload_n 1, []), (18, .if_icmp .ne 6, [14]), (21, .iinc 2 1, []), (24, .iinc 3 1, []), (27, .goto (-23), [4]), (30, .iload_n 2, []), (31, .ireturn, [])]
def zk_21 : List zR := [(0, .aload_n 0, []), (1, .getfield 33, [1, 10, 88]), (4, .iload_n 1, []), (5, .invokestatic 66, [109, 224, 225]), (8, .ireturn, [])]
def zk_22 : List zR := [(0, .aload_n 0, []), (1, .getfield 24, [1, 5, 83]), (4, .iload_n 1, []), (5, .invokestatic 66, [109, 224, 225]), (8, .ireturn, [])]
def zk_23 : List zR := [(0, .aload_n 0, []), (1, .iload_n 1, []), (2, .invokevirtual 74, [22, 260, 241, 242]), (5, .ifCond .lt 7, [6]), (8, .iconst 1, []), (9, .goto 4, [7]), (12, .iconst 0, []), (13, .ireturn, [])]
def zk_24 : List zR := [(0, .aload_n 0, []), (1, .getfield 27, [1, 6, 84]), (4, .iload_n 1, []), (5, .invokestatic 66, [109, 224, 225]), (8, .ireturn, [])]
def zk_25 : List zR := [(0, .iconst 1, []), (1, .aload_n 0, []), (2, .iload_n 1, []), (3, .invokevirtual 77, [24, 426, 245, 246]), (6, .isub, []), (7, .ireturn, [])]
def zk_26 : List zR := [(0, .aload_n 0, []), (1, .getfield 47, [1, 7, 85]), (4, .ireturn, [])]
def zk_27 : List zR := [(0, .aload_n 0, []), (1, .getfield 30, [1, 8, 86]), (4, .iload_n 1, []), (5, .invokestatic 66, [109, 224, 225]), (8, .ireturn, [])]
def zk_28 : List zR := [(0, .aload_n 0, []), (1, .getfield 50, [1, 9, 87]), (4, .ireturn, [])]
def zk_29 : List zR := [(0, .aload_n 0, []), (1, .iload_n 1, []), (2, .putfield 50, [1, 9, 87]), (5, .return_, [])]
def zk_30 : List zR := [(0, .aload_n 0, []), (1, .getfield 36, [1, 11, 89]), (4, .ireturn, [])]
def zk_31 : List zR := [(0, .aload_n 0, []), (1, .iload_n 1, []), (2, .putfield 36, [1, 11, 89]), (5, .return_, [])]
def zk_32 : List zR := [(0, .aload_n 0, []), (1, .getfield 30, [1, 8, 86]), (4, .aload_n 0, []), (5, .getfield 47, [1, 7, 85]), (8, .iconst 1, []), (9, .isub, []), (10, .invokestatic 66, [109, 224, 225]), (13, .istore_n 1, []), (14, .aload_n 0, []), (15, .getfield 15, [1, 2, 80]), (18, .iconst 2, []), (19, .iload_n 1, []), (20, .imul, []), (21, .iconst 1, []), (22, .iadd, []), (23, .aload_n 0, []), (24, .getfield 27, [1, 6, 84]), (27, .iload_n 1, []), (28, .invokestatic 66, [109, 224, 225]), (31, .isub, []), (32, .invokestatic 66, [109, 224, 225]), (35, .ireturn, [])]
def zk_33 : List zR := [(0, .iload_n 0, []), (1, .iload_n 1, []), (2, .isub, []), (3, .invokestatic 80, [177, 390, 391]), (6, .iconst 1, []), (7, .if_icmp .gt 7, [8]), (10, .iconst 1, []), (11, .goto 4, [9]), (14, .iconst 0, []), (15, .ireturn, [])]
def zk_34 : List zR := [(0, .aload_n 0, []), (1, .getfield 47, [1, 7, 85]), (4, .ifCond .eq 19, [11]), (7, .aload_n 0, []), (8, .iload_n 1, []), (9, .iload_n 2, []), (10, .invokevirtual 85, [15, 382, 221, 222]), (13, .aload_n 0, []), (14, .invokevirtual 89, [32, 383, 385, 7]), (17, .invokestatic 93, [33, 387, 388]), (20, .ifCond .eq 7, [13]), (23, .iconst 1, []), (24, .goto 4, [14]), (27, .iconst 0, []), (28, .ireturn, [])]
def zk_35 : List zR := [(0, .iload_n 2, []), (1, .iconst 2, []), (2, .idiv, []), (3, .istore_n 3, []), (4, .aload_n 0, []), (5, .iload_n 3, []), (6, .invokevirtual 97, [12, 518, 214, 215]), (9, .ifCond .eq 27, [22]), (12, .aload_n 0, []), (13, .iload_n 3, []), (14, .invokevirtual 70, [18, 356, 249, 250]), (17, .iload_n 1, []), (18, .if_icmp .ne 18, [22]), (21, .aload_n 0, []), (22, .iload_n 3, []), (23, .iload_n 2, []), (24, .iconst 2, []), (25, .irem, []), (26, .invokevirtual 101, [34, 519, 379, 380]), (29, .ifCond .eq 7, [22]), (32, .iconst 1, []), (33, .goto 4, [23]), (36, .iconst 0, []), (37, .ireturn, [])]
def zk_36 : List zR := [(0, .aload_n 0, []), (1, .getfield 47, [1, 7, 85]), (4, .iconst 3, []), (5, .if_icmp .ge 5, [6]), (8, .iconst 0, []), (9, .ireturn, []), (10, .aload_n 0, []), (11, .iconst 0, []), (12, .invokevirtual 104, [27, 365, 366, 367]), (15, .istore_n 1, []), (16, .aload_n 0, []), (17, .iload_n 1, []), (18, .aload_n 0, []), (19, .iload_n 1, []), (20, .invokevirtual 77, [24, 426, 245, 246]), (23, .invokevirtual 85, [15, 382, 221, 222]), (26, .aload_n 0, []), (27, .invokevirtual 89, [32, 383, 385, 7]), (30, .invokestatic 93, [33, 387, 388]), (33, .ireturn, [])]
def zk_37 : List zR := [(0, .aload_n 0, []), (1, .invokevirtual 107, [43, 402, 403, 404]), (4, .istore_n 3, []), (5, .aload_n 0, []), (6, .iload_n 3, []), (7, .invokevirtual 110, [44, 414, 415, 416]), (10, .ifCond .ne 8, [10]), (13, .aload_n 0, []), (14, .iload_n 3, []), (15, .invokevirtual 113, [46, 422, 423, 424]), (18, .aload_n 0, []), (19, .iload_n 1, []), (20, .invokevirtual 70, [18, 356, 249, 250]), (23, .istore 4, []), (25, .aload_n 0, []), (26, .iload_n 1, []), (27, .invokevirtual 62, [10, 205, 207, 0]), (30, .aload_n 0, []), (31, .getfield 24, [1, 5, 83]), (34, .iload_n 1, []), (35, .aload_n 0, []), (36, .getfield 47, [1, 7, 85]), (39, .invokestatic 54, [110, 198, 199]), (42, .aload_n 0, []), (43, .getfield 27, [1, 6, 84]), (46, .iload_n 1, []), (47, .iload_n 2, []), (48, .invokestatic 54, [110, 198, 199]), (51, .aload_n 0, []), (52, .getfield 30, [1, 8, 86]), (55, .aload_n 0, []), (56, .getfield 47, [1, 7, 85]), (59, .iload_n 1, []), (60, .invokestatic 54, [110, 198, 199]), (63, .aload_n 0, []), (64, .dup, []), (65, .getfield 47, [1, 7, 85]), (68, .iconst 1, []), (69, .iadd, []), (70, .putfield 47, [1, 7, 85]), (73, .aload_n 0, []), (74, .invokevirtual 116, [38, 441, 443, 12]), (77, .istore 5, []), (79, .iload 4, []), (81, .invokestatic 119, [96, 447, 448]), (84, .ifCond .eq 21, [55]), (87, .aload_n 0, []), (88, .getfield 33, [1, 10, 88]), (91, .iload 4, []), (93, .aload_n 0, []), (94, .iload 4, []), (96, .invokevirtual 122, [21, 450, 358, 359]), (99, .iload 5, []), (101, .iadd, []), (102, .invokestatic 54, [110, 198, 199]), (105, .iload 5, []), (107, .ireturn, [])]
def zk_38 : List zR := [(0, .aload_n 0, []), (1, .getfield 47, [1, 7, 85]), (4, .iconst 2, []), (5, .if_icmp .lt 16, [11]), (8, .aload_n 0, []), (9, .invokevirtual 125, [39, 445, 362, 363]), (12, .iconst 2, []), (13, .aload_n 0, []), (14, .getfield 47, [1, 7, 85]), (17, .imul, []), (18, .if_icmp .ge 5, [13]), (21, .iconst 0, []), (22, .ireturn, []), (23, .aload_n 0, []), (24, .getfield 47, [1, 7, 85]), (27, .istore_n 1, []), (28, .iconst 0, []), (29, .istore_n 2, []), (30, .iload_n 2, []), (31, .aload_n 0, []), (32, .getfield 47, [1, 7, 85]), (35, .if_icmp .ge 25, [32]), (38, .aload_n 0, []), (39, .aload_n 0, []), (40, .iload_n 2, []), (41, .invokevirtual 104, [27, 365, 366, 367]), (44, .invokevirtual 128, [14, 446, 237, 238]), (47, .iconst 3, []), (48, .if_icmp .ne 6, [30]), (51, .iinc 1 1, []), (54, .iinc 2 1, []), (57, .goto (-27), [18]), (60, .iload_n 1, []), (61, .ireturn, [])]
def zk_39 : List zR := [(0, .iconst 0, []), (1, .istore_n 1, []), (2, .iconst 0, []), (3, .istore_n 2, []), (4, .iload_n 2, []), (5, .aload_n 0, []), (6, .getfield 47, [1, 7, 85]), (9, .if_icmp .ge 47, [34]), (12, .aload_n 0, []), (13, .iload_n 2, []), (14, .invokevirtual 104, [27, 365, 366, 367]), (17, .istore_n 3, []), (18, .iload_n 1, []), (19, .aload_n 0, []), (20, .iload_n 3, []), (21, .iconst 0, []), (22, .invokevirtual 131, [16, 369, 228, 229]), (25, .ifCond .ne 7, [20]), (28, .iconst 1, []), (29, .goto 4, [21]), (32, .iconst 0, []), (33, .aload_n 0, []), (34, .iload_n 3, []), (35, .iconst 1, []), (36, .invokevirtual 131, [16, 369, 228, 229]), (39, .ifCond .ne 7, [28]), (42, .iconst 1, []), (43, .goto 4, [29]), (46, .iconst 0, []), (47, .iadd, []), (48, .iadd, []), (49, .istore_n 1, []), (50, .iinc 2 1, []), (53, .goto (-49), [4]), (56, .iload_n 1, []), (57, .ireturn, [])]
def zk_40 : List zR := [(0, .iconst 0, []), (1, .istore_n 2, []), (2, .iload_n 2, []), (3, .iload_n 1, []), (4, .if_icmp .ge 38, [22]), (7, .aload_n 0, []), (8, .getfield 47, [1, 7, 85]), (11, .ifCond .le 31, [22]), (14, .aload_n 0, []), (15, .dup, []), (16, .getfield 47, [1, 7, 85]), (19, .iconst 1, []), (20, .isub, []), (21, .putfield 47, [1, 7, 85]), (24, .aload_n 0, []), (25, .aload_n 0, []), (26, .aload_n 0, []), (27, .getfield 47, [1, 7, 85]), (30, .invokevirtual 104, [27, 365, 366, 367]), (33, .invokevirtual 62, [10, 205, 207, 0]), (36, .iinc 2 1, []), (39, .goto (-37), [2]), (42, .aload_n 0, []), (43, .iconst 0, []), (44, .putfield 50, [1, 9, 87]), (47, .return_, [])]
def zk_41 : List zR := [(0, .aload_n 0, []), (1, .getfield 9, [1, 1, 79]), (4, .iload_n 1, []), (5, .invokestatic 66, [109, 224, 225]), (8, .iconst 2, []), (9, .if_icmp .ne 7, [8]), (12, .iload_n 2, []), (13, .goto 5, [10]), (16, .iload_n 2, []), (17, .ineg, []), (18, .ireturn, [])]
def zk_42 : List zR := [(0, .iconst (-1), []), (1, .istore_n 2, []), (2, .iconst 0, []), (3, .istore_n 3, []), (4, .iload_n 3, []), (5, .iload_n 1, []), (6, .if_icmp .gt 29, [21]), (9, .iload_n 3, []), (10, .aload_n 0, []), (11, .getfield 47, [1, 7, 85]), (14, .if_icmp .ge 21, [21]), (17, .aload_n 0, []), (18, .aload_n 0, []), (19, .iload_n 3, []), (20, .invokevirtual 104, [27, 365, 366, 367]), (23, .iload_n 2, []), (24, .ineg, []), (25, .invokevirtual 134, [41, 410, 412, 9]), (28, .istore_n 2, []), (29, .iinc 3 1, []), (32, .goto (-28), [4]), (35, .iload_n 2, []), (36, .ireturn, [])]
def zk_43 : List zR := [(0, .aload_n 0, []), (1, .aload_n 0, []), (2, .getfield 47, [1, 7, 85]), (5, .iconst 1, []), (6, .isub, []), (7, .invokevirtual 137, [42, 406, 408, 8]), (10, .ireturn, [])]
def zk_44 : List zR := [(0, .iconst 0, []), (1, .istore_n 2, []), (2, .iload_n 1, []), (3, .istore_n 3, []), (4, .iconst 0, []), (5, .istore 4, []), (7, .iconst 0, []), (8, .istore 5, []), (10, .iload 5, []), (12, .aload_n 0, []), (13, .getfield 47, [1, 7, 85]), (16, .if_icmp .ge 56, [39]), (19, .aload_n 0, []), (20, .getfield 30, [1, 8, 86]), (23, .iload 5, []), (25, .invokestatic 66, [109, 224, 225]), (28, .istore 6, []), (30, .aload_n 0, []), (31, .iload 6, []), (33, .iload_n 3, []), (34, .invokevirtual 134, [41, 410, 412, 9]), (37, .istore 4, []), (39, .aload_n 0, []), (40, .iload 6, []), (42, .invokevirtual 140, [45, 418, 420, 10]), (45, .ifCond .eq 17, [34]), (48, .iload_n 3, []), (49, .ifCond .lt 8, [30]), (52, .iload 4, []), (54, .ifCond .ge 8, [34]), (57, .iconst 2, []), (58, .iload 6, []), (60, .iadd, []), (61, .istore_n 2, []), (62, .iload 4, []), (64, .ineg, []), (65, .istore_n 3, []), (66, .iinc 5 1, []), (69, .goto (-59), [8]), (72, .aload_n 0, []), (73, .getfield 50, [1, 9, 87]), (76, .ifCond .eq 13, [47]), (79, .iload 4, []), (81, .iload_n 1, []), (82, .if_icmp .ne 7, [47]), (85, .iconst 1, []), (86, .goto 4, [48]), (89, .iload_n 2, []), (90, .ireturn, [])]
def zk_45 : List zR := [(0, .aload_n 0, []), (1, .getfield 9, [1, 1, 79]), (4, .iload_n 1, []), (5, .invokestatic 66, [109, 224, 225]), (8, .istore_n 2, []), (9, .iload_n 2, []), (10, .iconst 1, []), (11, .if_icmp .eq 8, [11]), (14, .iload_n 2, []), (15, .iconst 3, []), (16, .if_icmp .ne 7, [13]), (19, .iconst 1, []), (20, .goto 4, [14]), (23, .iconst 0, []), (24, .ireturn, [])]
def zk_46 : List zR := [(0, .iload_n 1, []), (1, .istore_n 2, []), (2, .iconst 0, []), (3, .istore_n 3, []), (4, .iload_n 3, []), (5, .aload_n 0, []), (6, .getfield 47, [1, 7, 85]), (9, .if_icmp .ge 53, [36]), (12, .aload_n 0, []), (13, .iload_n 3, []), (14, .invokevirtual 104, [27, 365, 366, 367]), (17, .istore 4, []), (19, .aload_n 0, []), (20, .iload 4, []), (22, .aload_n 0, []), (23, .iload 4, []), (25, .invokevirtual 77, [24, 426, 245, 246]), (28, .iload_n 2, []), (29, .invokevirtual 143, [47, 427, 429, 11]), (32, .aload_n 0, []), (33, .iload 4, []), (35, .iload_n 2, []), (36, .invokevirtual 134, [41, 410, 412, 9]), (39, .istore_n 2, []), (40, .aload_n 0, []), (41, .iload 4, []), (43, .aload_n 0, []), (44, .iload 4, []), (46, .invokevirtual 146, [25, 437, 438, 439]), (49, .iload_n 2, []), (50, .invokevirtual 143, [47, 427, 429, 11]), (53, .iload_n 2, []), (54, .ineg, []), (55, .istore_n 2, []), (56, .iinc 3 1, []), (59, .goto (-55), [4]), (62, .return_, [])]
def zk_47 : List zR := [(0, .aload_n 0, []), (1, .iload_n 1, []), (2, .iload_n 2, []), (3, .aload_n 0, []), (4, .iload_n 1, []), (5, .iload_n 2, []), (6, .invokevirtual 131, [16, 369, 228, 229]), (9, .iload_n 3, []), (10, .iadd, []), (11, .aload_n 0, []), (12, .iload_n 1, []), (13, .iload_n 2, []), (14, .invokevirtual 85, [15, 382, 221, 222]), (17, .invokestatic 149, [48, 431, 432]), (20, .invokevirtual 58, [17, 201, 202, 203]), (23, .return_, [])]
def zk_48 : List zR := [(0, .iload_n 1, []), (1, .ifCond .le 11, [6]), (4, .iload_n 0, []), (5, .iload_n 1, []), (6, .invokestatic 152, [176, 434, 435]), (9, .goto 4, [7]), (12, .iconst 0, []), (13, .ireturn, [])]
def zk_49 : List zR := [(0, .iconst 1, []), (1, .istore_n 1, []), (2, .iconst 0, []), (3, .istore_n 2, []), (4, .iload_n 2, []), (5, .aload_n 0, []), (6, .getfield 47, [1, 7, 85]), (9, .if_icmp .ge 37, [28]), (12, .aload_n 0, []), (13, .iload_n 2, []), (14, .invokevirtual 104, [27, 365, 366, 367]), (17, .istore_n 3, []), (18, .iload_n 1, []), (19, .aload_n 0, []), (20, .iload_n 3, []), (21, .iconst 0, []), (22, .invokevirtual 85, [15, 382, 221, 222]), (25, .invokestatic 155, [50, 494, 495]), (28, .istore_n 1, []), (29, .iload_n 1, []), (30, .aload_n 0, []), (31, .iload_n 3, []), (32, .iconst 1, []), (33, .invokevirtual 85, [15, 382, 221, 222]), (36, .invokestatic 155, [50, 494, 495]), (39, .istore_n 1, []), (40, .iinc 2 1, []), (43, .goto (-39), [4]), (46, .iload_n 1, []), (47, .ireturn, [])]
def zk_50 : List zR := [(0, .iload_n 0, []), (1, .istore_n 2, []), (2, .iconst 1, []), (3, .istore_n 3, []), (4, .iload_n 3, []), (5, .iload_n 1, []), (6, .if_icmp .ge 21, [17]), (9, .iload_n 2, []), (10, .iload_n 1, []), (11, .invokestatic 149, [48, 431, 432]), (14, .ifCond .eq 13, [17]), (17, .iload_n 2, []), (18, .iload_n 0, []), (19, .iadd, []), (20, .istore_n 2, []), (21, .iinc 3 1, []), (24, .goto (-20), [4]), (27, .iload_n 2, []), (28, .ireturn, [])]
def zk_51 : List zR := [(0, .iconst 0, []), (1, .istore_n 1, []), (2, .iconst 1, []), (3, .istore_n 2, []), (4, .iconst (-1), []), (5, .istore_n 3, []), (6, .iconst 0, []), (7, .istore 4, []), (9, .iload 4, []), (11, .iconst 2, []), (12, .aload_n 0, []), (13, .getfield 47, [1, 7, 85]), (16, .imul, []), (17, .if_icmp .ge 105, [69]), (20, .aload_n 0, []), (21, .iload 4, []), (23, .iconst 2, []), (24, .idiv, []), (25, .invokevirtual 104, [27, 365, 366, 367]), (28, .istore 5, []), (30, .iload 4, []), (32, .iconst 2, []), (33, .irem, []), (34, .ifCond .ne 7, [26]), (37, .iconst 1, []), (38, .goto 4, [27]), (41, .iconst 0, []), (42, .istore 6, []), (44, .iload 6, []), (46, .ifCond .eq 12, [34]), (49, .aload_n 0, []), (50, .iload 5, []), (52, .invokevirtual 77, [24, 426, 245, 246]), (55, .goto 9, [37]), (58, .aload_n 0, []), (59, .iload 5, []), (61, .invokevirtual 146, [25, 437, 438, 439]), (64, .istore 7, []), (66, .iload 6, []), (68, .ifCond .eq 8, [43]), (71, .iload_n 3, []), (72, .ineg, []), (73, .goto 10, [47]), (76, .aload_n 0, []), (77, .iload 5, []), (79, .iload_n 3, []), (80, .invokevirtual 134, [41, 410, 412, 9]), (83, .istore_n 3, []), (84, .aload_n 0, []), (85, .iload 5, []), (87, .iload 7, []), (89, .iload_n 3, []), (90, .iload_n 1, []), (91, .iload_n 2, []), (92, .invokevirtual 158, [52, 505, 507, 14]), (95, .istore_n 1, []), (96, .iload_n 1, []), (97, .ifCond .ge 6, [60]), (100, .bipush (-4), []), (102, .ireturn, []), (103, .iload_n 2, []), (104, .aload_n 0, []), (105, .iload 5, []), (107, .iload 7, []), (109, .invokevirtual 85, [15, 382, 221, 222]), (112, .invokestatic 155, [50, 494, 495]), (115, .istore_n 2, []), (116, .iinc 4 1, []), (119, .goto (-110), [8]), (122, .iload_n 1, []), (123, .ireturn, [])]
def zk_52 : List zR := [(0, .aload_n 0, []), (1, .iload_n 1, []), (2, .iload_n 2, []), (3, .invokevirtual 85, [15, 382, 221, 222]), (6, .istore 6, []), (8, .aload_n 0, []), (9, .iload_n 1, []), (10, .iload_n 2, []), (11, .invokevirtual 131, [16, 369, 228, 229]), (14, .istore 7, []), (16, .iconst 0, []), (17, .istore 8, []), (19, .iload 8, []), (21, .iload 6, []), (23, .if_icmp .ge 37, [33]), (26, .iload 4, []), (28, .iload 8, []), (30, .iload 5, []), (32, .imul, []), (33, .iadd, []), (34, .istore 9, []), (36, .iload 7, []), (38, .iload_n 3, []), (39, .iload 9, []), (41, .imul, []), (42, .iadd, []), (43, .iload 6, []), (45, .invokestatic 149, [48, 431, 432]), (48, .ifCond .ne 6, [31]), (51, .iload 9, []), (53, .ireturn, []), (54, .iinc 8 1, []), (57, .goto (-38), [12]), (60, .bipush (-4), []), (62, .ireturn, [])]
def zk_53 : List zR := [(0, .aload_n 0, []), (1, .iload_n 1, []), (2, .invokevirtual 146, [25, 437, 438, 439]), (5, .istore_n 3, []), (6, .iload_n 2, []), (7, .aload_n 0, []), (8, .iload_n 1, []), (9, .iload_n 3, []), (10, .invokevirtual 131, [16, 369, 228, 229]), (13, .isub, []), (14, .istore 4, []), (16, .aload_n 0, []), (17, .aload_n 0, []), (18, .iload_n 1, []), (19, .invokevirtual 74, [22, 260, 241, 242]), (22, .invokevirtual 137, [42, 406, 408, 8]), (25, .iload 4, []), (27, .imul, []), (28, .aload_n 0, []), (29, .iload_n 1, []), (30, .iload_n 3, []), (31, .invokevirtual 85, [15, 382, 221, 222]), (34, .invokestatic 149, [48, 431, 432]), (37, .ireturn, [])]
def zk_54 : List zR := [(0, .aload_n 0, []), (1, .iload_n 1, []), (2, .invokevirtual 162, [55, 544, 546, 16]), (5, .istore_n 2, []), (6, .iload_n 2, []), (7, .ifCond .ne 5, [8]), (10, .iconst 0, []), (11, .ireturn, []), (12, .aload_n 0, []), (13, .aload_n 0, []), (14, .getfield 36, [1, 11, 89]), (17, .ldc 165, [1103515245, 0, 549]), (19, .imul, []), (20, .sipush 12345, []), (23, .iadd, []), (24, .ldc 166, [2147483647, 0, 550]), (26, .iand, []), (27, .putfield 36, [1, 11, 89]), (30, .aload_n 0, []), (31, .getfield 36, [1, 11, 89]), (34, .ldc 167, [65536, 0, 551]), (36, .idiv, []), (37, .iload_n 2, []), (38, .invokestatic 149, [48, 431, 432]), (41, .istore_n 3, []), (42, .iconst 0, []), (43, .istore 4, []), (45, .iload 4, []), (47, .bipush 24, []), (49, .if_icmp .ge 41, [51]), (52, .aload_n 0, []), (53, .iload_n 1, []), (54, .iload 4, []), (56, .invokevirtual 168, [35, 548, 515, 516]), (59, .ifCond .eq 25, [49]), (62, .iload_n 3, []), (63, .ifCond .ne 18, [48]), (66, .aload_n 0, []), (67, .iload 4, []), (69, .iconst 2, []), (70, .idiv, []), (71, .iload 4, []), (73, .iconst 2, []), (74, .irem, []), (75, .invokevirtual 171, [37, 552, 399, 400]), (78, .pop, []), (79, .iconst 1, []), (80, .ireturn, []), (81, .iinc 3 (-1), []), (84, .iinc 4 1, []), (87, .goto (-42), [27]), (90, .iconst 0, []), (91, .ireturn, [])]
def zk_55 : List zR := [(0, .iconst 0, []), (1, .istore_n 2, []), (2, .iconst 0, []), (3, .istore_n 3, []), (4, .iload_n 3, []), (5, .bipush 24, []), (7, .if_icmp .ge 21, [15]), (10, .aload_n 0, []), (11, .iload_n 1, []), (12, .iload_n 3, []), (13, .invokevirtual 168, [35, 548, 515, 516]), (16, .ifCond .eq 6, [13]), (19, .iinc 2 1, []), (22, .iinc 3 1, []), (25, .goto (-21), [4]), (28, .iload_n 2, []), (29, .ireturn, [])]
def zk_56 : List zR := [(0, .aload_n 0, []), (1, .getfield 15, [2, 1, 123]), (4, .ireturn, [])]
def zk_57 : List zR := [(0, .aload_n 0, []), (1, .getfield 9, [2, 0, 122]), (4, .aload_n 0, []), (5, .getfield 15, [2, 1, 123]), (8, .iload_n 1, []), (9, .invokestatic 19, [110, 280, 199]), (12, .aload_n 0, []), (13, .dup, []), (14, .getfield 15, [2, 1, 123]), (17, .iconst 1, []), (18, .iadd, []), (19, .putfield 15, [2, 1, 123]), (22, .return_, [])]
def zk_58 : List zR := [(0, .aload_n 0, []), (1, .iconst 0, []), (2, .putfield 15, [2, 1, 123]), (5, .return_, [])]
def zk_59 : List zR := [(0, .aload_n 0, []), (1, .iconst (-1), []), (2, .putfield 23, [2, 2, 124]), (5, .aload_n 0, []), (6, .invokevirtual 26, [60, 306, 308, 1]), (9, .aload_n 0, []), (10, .aload_n 1, []), (11, .invokevirtual 29, [61, 311, 313, 2]), (14, .istore_n 2, []), (15, .iconst 1, []), (16, .istore_n 3, []), (17, .iload_n 3, []), (18, .bipush 8, []), (20, .if_icmp .ge 47, [35]), (23, .iload_n 2, []), (24, .ifCond .eq 43, [35]), (27, .aload_n 0, []), (28, .getfield 23, [2, 2, 124]), (31, .aload_n 0, []), (32, .getfield 15, [2, 1, 123]), (35, .if_icmp .ge 32, [35]), (38, .aload_n 0, []), (39, .bipush 44, []), (41, .invokevirtual 33, [65, 324, 326, 5]), (44, .ifCond .eq 15, [31]), (47, .aload_n 0, []), (48, .aload_n 1, []), (49, .invokevirtual 29, [61, 311, 313, 2]), (52, .ifCond .eq 7, [31]), (55, .iconst 1, []), (56, .goto 4, [32]), (59, .iconst 0, []), (60, .istore_n 2, []), (61, .iinc 3 1, []), (64, .goto (-47), [11]), (67, .iload_n 2, []), (68, .ifCond .eq 21, [45]), (71, .aload_n 0, []), (72, .getfield 23, [2, 2, 124]), (75, .aload_n 0, []), (76, .getfield 15, [2, 1, 123]), (79, .if_icmp .ne 10, [45]), (82, .aload_n 1, []), (83, .invokevirtual 37, [11, 335, 336, 337]), (86, .goto 10, [49]), (89, .bipush (-20), []), (91, .aload_n 0, []), (92, .getfield 23, [2, 2, 124]), (95, .isub, []), (96, .ireturn, [])]
def zk_60 : List zR := [(0, .aload_n 0, []), (1, .dup, []), (2, .getfield 23, [2, 2, 124]), (5, .iconst 1, []), (6, .iadd, []), (7, .putfield 23, [2, 2, 124]), (10, .aload_n 0, []), (11, .getfield 23, [2, 2, 124]), (14, .aload_n 0, []), (15, .getfield 15, [2, 1, 123]), (18, .if_icmp .ge 19, [18]), (21, .aload_n 0, []), (22, .getfield 9, [2, 0, 122]), (25, .aload_n 0, []), (26, .getfield 23, [2, 2, 124]), (29, .invokestatic 43, [109, 310, 225]), (32, .bipush 32, []), (34, .if_icmp .eq (-34), [0]), (37, .return_, [])]
def zk_61 : List zR := [(0, .aload_n 0, []), (1, .iconst 3, []), (2, .bipush 9, []), (4, .invokevirtual 47, [64, 315, 317, 3]), (7, .istore_n 2, []), (8, .iload_n 2, []), (9, .ifCond .ge 8, [9]), (12, .bipush (-4), []), (14, .goto 10, [13]), (17, .aload_n 0, []), (18, .iconst 3, []), (19, .bipush 9, []), (21, .invokevirtual 47, [64, 315, 317, 3]), (24, .istore_n 3, []), (25, .iload_n 3, []), (26, .ifCond .ge 5, [18]), (29, .iconst 0, []), (30, .ireturn, []), (31, .aload_n 1, []), (32, .aload_n 0, []), (33, .invokevirtual 51, [63, 320, 322, 4]), (36, .iload_n 2, []), (37, .iload_n 3, []), (38, .invokevirtual 54, [9, 328, 195, 196]), (41, .istore 4, []), (43, .aload_n 0, []), (44, .bipush 64, []), (46, .invokevirtual 33, [65, 324, 326, 5]), (49, .ifCond .eq 25, [41]), (52, .aload_n 0, []), (53, .aload_n 1, []), (54, .iload 4, []), (56, .iconst 0, []), (57, .invokevirtual 58, [62, 329, 331, 6]), (60, .ifCond .eq 18, [43]), (63, .aload_n 0, []), (64, .aload_n 1, []), (65, .iload 4, []), (67, .iconst 1, []), (68, .invokevirtual 58, [62, 329, 331, 6]), (71, .ifCond .eq 7, [43]), (74, .iconst 1, []), (75, .goto 4, [44]), (78, .iconst 0, []), (79, .ireturn, [])]
def zk_62 : List zR := [(0, .aload_n 0, []), (1, .iconst 0, []), (2, .aload_n 1, []), (3, .iload_n 2, []), (4, .iload_n 3, []), (5, .invokevirtual 62, [15, 333, 221, 222]), (8, .iconst 1, []), (9, .isub, []), (10, .invokevirtual 47, [64, 315, 317, 3]), (13, .istore 4, []), (15, .iload 4, []), (17, .ifCond .ge 5, [14]), (20, .iconst 0, []), (21, .ireturn, []), (22, .aload_n 1, []), (23, .iload_n 2, []), (24, .iload_n 3, []), (25, .iload 4, []), (27, .invokevirtual 65, [17, 334, 202, 203]), (30, .iconst 1, []), (31, .ireturn, [])]
def zk_63 : List zR := [(0, .aload_n 0, []), (1, .bipush 112, []), (3, .invokevirtual 33, [65, 324, 326, 5]), (6, .ifCond .eq 7, [6]), (9, .iconst 1, []), (10, .goto 30, [19]), (13, .aload_n 0, []), (14, .bipush 115, []), (16, .invokevirtual 33, [65, 324, 326, 5]), (19, .ifCond .eq 7, [12]), (22, .iconst 2, []), (23, .goto 17, [19]), (26, .aload_n 0, []), (27, .bipush 104, []), (29, .invokevirtual 33, [65, 324, 326, 5]), (32, .ifCond .eq 7, [18]), (35, .iconst 3, []), (36, .goto 4, [19]), (39, .iconst 0, []), (40, .ireturn, [])]
def zk_64 : List zR := [(0, .aload_n 0, []), (1, .getfield 23, [2, 2, 124]), (4, .aload_n 0, []), (5, .getfield 15, [2, 1, 123]), (8, .if_icmp .ge 20, [13]), (11, .aload_n 0, []), (12, .getfield 9, [2, 0, 122]), (15, .aload_n 0, []), (16, .getfield 23, [2, 2, 124]), (19, .invokestatic 43, [109, 310, 225]), (22, .bipush 48, []), (24, .isub, []), (25, .goto 5, [14]), (28, .bipush (-4), []), (30, .istore_n 3, []), (31, .iload_n 3, []), (32, .iload_n 1, []), (33, .iload_n 2, []), (34, .invokestatic 69, [93, 319, 185]), (37, .ifCond .ne 6, [22]), (40, .bipush (-4), []), (42, .ireturn, []), (43, .aload_n 0, []), (44, .invokevirtual 26, [60, 306, 308, 1]), (47, .iload_n 3, []), (48, .ireturn, [])]
def zk_65 : List zR := [(0, .aload_n 0, []), (1, .getfield 23, [2, 2, 124]), (4, .aload_n 0, []), (5, .getfield 15, [2, 1, 123]), (8, .if_icmp .ge 18, [12]), (11, .aload_n 0, []), (12, .getfield 9, [2, 0, 122]), (15, .aload_n 0, []), (16, .getfield 23, [2, 2, 124]), (19, .invokestatic 43, [109, 310, 225]), (22, .iload_n 1, []), (23, .if_icmp .eq 5, [14]), (26, .iconst 0, []), (27, .ireturn, []), (28, .aload_n 0, []), (29, .invokevirtual 26, [60, 306, 308, 1]), (32, .iconst 1, []), (33, .ireturn, [])]
def zk_66 : List zR := [(0, .iload_n 1, []), (1, .iconst 0, []), (2, .iconst 3, []), (3, .invokestatic 46, [93, 184, 185]), (6, .ifCond .eq 17, [11]), (9, .iload_n 2, []), (10, .invokestatic 50, [94, 187, 188]), (13, .ifCond .eq 10, [11]), (16, .iload_n 3, []), (17, .invokestatic 50, [94, 187, 188]), (20, .ifCond .ne 5, [13]), (23, .iconst (-1), []), (24, .ireturn, []), (25, .aload_n 0, []), (26, .getfield 10, [3, 0, 152]), (29, .invokevirtual 54, [8, 190, 191, 192]), (32, .ifCond .eq 8, [19]), (35, .bipush (-3), []), (37, .goto 13, [25]), (40, .aload_n 0, []), (41, .getfield 10, [3, 0, 152]), (44, .iload_n 1, []), (45, .iload_n 2, []), (46, .iload_n 3, []), (47, .invokevirtual 58, [9, 194, 195, 196]), (50, .ireturn, [])]
def zk_67 : List zR := [(0, .aload_n 0, []), (1, .getfield 10, [3, 0, 152]), (4, .iload_n 1, []), (5, .invokevirtual 62, [12, 213, 214, 215]), (8, .ifCond .eq 29, [19]), (11, .iload_n 2, []), (12, .invokestatic 65, [95, 217, 218]), (15, .ifCond .eq 22, [19]), (18, .iload_n 3, []), (19, .iconst 0, []), (20, .aload_n 0, []), (21, .getfield 10, [3, 0, 152]), (24, .iload_n 1, []), (25, .iload_n 2, []), (26, .invokevirtual 68, [15, 220, 221, 222]), (29, .iconst 1, []), (30, .isub, []), (31, .invokestatic 46, [93, 184, 185]), (34, .ifCond .ne 5, [21]), (37, .iconst (-1), []), (38, .ireturn, []), (39, .aload_n 0, []), (40, .getfield 10, [3, 0, 152]), (43, .iload_n 1, []), (44, .iload_n 2, []), (45, .invokevirtual 72, [16, 227, 228, 229]), (48, .istore 4, []), (50, .aload_n 0, []), (51, .getfield 10, [3, 0, 152]), (54, .iload_n 1, []), (55, .iload_n 2, []), (56, .iload_n 3, []), (57, .invokevirtual 75, [17, 231, 202, 203]), (60, .iload 4, []), (62, .ireturn, [])]
def zk_68 : List zR := [(0, .aload_n 0, []), (1, .getfield 10, [3, 0, 152]), (4, .iload_n 1, []), (5, .invokevirtual 62, [12, 213, 214, 215]), (8, .ifCond .ne 5, [7]), (11, .iconst (-1), []), (12, .ireturn, []), (13, .iload_n 2, []), (14, .tableswitch 106 0 7 #[46, 55, 55, 67, 67, 79, 88, 97], [45, 9, 14, 14, 22, 22, 30, 35, 40, 46]), (60, .aload_n 0, []), (61, .getfield 10, [3, 0, 152]), (64, .iload_n 1, []), (65, .invokevirtual 79, [14, 236, 237, 238]), (68, .ireturn, []), (69, .aload_n 0, []), (70, .getfield 10, [3, 0, 152]), (73, .iload_n 1, []), (74, .iload_n 2, []), (75, .iconst 1, []), (76, .isub, []), (77, .invokevirtual 68, [15, 220, 221, 222]), (80, .ireturn, []), (81, .aload_n 0, []), (82, .getfield 10, [3, 0, 152]), (85, .iload_n 1, []), (86, .iload_n 2, []), (87, .iconst 3, []), (88, .isub, []), (89, .invokevirtual 72, [16, 227, 228, 229]), (92, .ireturn, []), (93, .aload_n 0, []), (94, .getfield 10, [3, 0, 152]), (97, .iload_n 1, []), (98, .invokevirtual 83, [22, 240, 241, 242]), (101, .ireturn, []), (102, .aload_n 0, []), (103, .getfield 10, [3, 0, 152]), (106, .iload_n 1, []), (107, .invokevirtual 86, [24, 244, 245, 246]), (110, .ireturn, []), (111, .aload_n 0, []), (112, .getfield 10, [3, 0, 152]), (115, .iload_n 1, []), (116, .invokevirtual 89, [18, 248, 249, 250]), (119, .ireturn, []), (120, .iconst (-1), []), (121, .ireturn, [])]
def zk_69 : List zR := [(0, .aload_n 0, []), (1, .getfield 10, [3, 0, 152]), (4, .iload_n 1, []), (5, .invokevirtual 62, [12, 213, 214, 215]), (8, .ifCond .eq 12, [10]), (11, .iload_n 2, []), (12, .iconst (-1), []), (13, .iconst 1, []), (14, .invokestatic 46, [93, 184, 185]), (17, .ifCond .ne 5, [12]), (20, .iconst (-1), []), (21, .ireturn, []), (22, .aload_n 0, []), (23, .getfield 10, [3, 0, 152]), (26, .iload_n 1, []), (27, .invokevirtual 92, [23, 256, 257, 258]), (30, .ifCond .eq 6, [19]), (33, .bipush (-2), []), (35, .ireturn, []), (36, .aload_n 0, []), (37, .getfield 10, [3, 0, 152]), (40, .iload_n 1, []), (41, .invokevirtual 89, [18, 248, 249, 250]), (44, .istore_n 3, []), (45, .aload_n 0, []), (46, .getfield 10, [3, 0, 152]), (49, .iload_n 1, []), (50, .iload_n 2, []), (51, .ifCond .ge 8, [31]), (54, .bipush (-4), []), (56, .goto 4, [32]), (59, .iload_n 2, []), (60, .invokevirtual 95, [19, 261, 262, 263]), (63, .iload_n 3, []), (64, .ireturn, [])]
def zk_70 : List zR := [(0, .iload_n 3, []), (1, .iconst 1, []), (2, .bipush 8, []), (4, .invokestatic 46, [93, 184, 185]), (7, .ifCond .ne 5, [7]), (10, .iconst (-1), []), (11, .ireturn, []), (12, .iconst 0, []), (13, .istore 4, []), (15, .iload 4, []), (17, .iload_n 3, []), (18, .if_icmp .ge 27, [23]), (21, .lload_n 1, []), (22, .iload 4, []), (24, .invokestatic 99, [98, 269, 270]), (27, .bipush 32, []), (29, .bipush 126, []), (31, .invokestatic 46, [93, 184, 185]), (34, .ifCond .ne 5, [21]), (37, .iconst (-1), []), (38, .ireturn, []), (39, .iinc 4 1, []), (42, .goto (-27), [9]), (45, .aload_n 0, []), (46, .getfield 28, [3, 5, 157]), (49, .invokevirtual 103, [56, 272, 273, 274]), (52, .iload_n 3, []), (53, .iadd, []), (54, .bipush 80, []), (56, .if_icmp .le 6, [32]), (59, .bipush (-3), []), (61, .ireturn, []), (62, .iload_n 3, []), (63, .iconst 1, []), (64, .isub, []), (65, .istore 4, []), (67, .iload 4, []), (69, .ifCond .lt 22, [46]), (72, .aload_n 0, []), (73, .getfield 28, [3, 5, 157]), (76, .lload_n 1, []), (77, .iload 4, []), (79, .invokestatic 99, [98, 269, 270]), (82, .invokevirtual 107, [57, 276, 277, 278]), (85, .iinc 4 (-1), []), (88, .goto (-21), [36]), (91, .aload_n 0, []), (92, .getfield 28, [3, 5, 157]), (95, .invokevirtual 103, [56, 272, 273, 274]), (98, .ireturn, [])]
def zk_71 : List zR := [(0, .aload_n 0, []), (1, .getfield 19, [3, 3, 155]), (4, .aload_n 0, []), (5, .getfield 10, [3, 0, 152]), (8, .invokevirtual 111, [6, 285, 286, 287]), (11, .aload_n 0, []), (12, .getfield 19, [3, 3, 155]), (15, .invokevirtual 115, [7, 298, 299, 300]), (18, .aload_n 0, []), (19, .getfield 28, [3, 5, 157]), (22, .aload_n 0, []), (23, .getfield 19, [3, 3, 155]), (26, .invokevirtual 118, [59, 302, 303, 304]), (29, .istore_n 1, []), (30, .aload_n 0, []), (31, .getfield 28, [3, 5, 157]), (34, .invokevirtual 122, [58, 339, 340, 341]), (37, .iload_n 1, []), (38, .ifCond .le 14, [24]), (41, .aload_n 0, []), (42, .getfield 10, [3, 0, 152]), (45, .aload_n 0, []), (46, .getfield 19, [3, 3, 155]), (49, .invokevirtual 111, [6, 285, 286, 287]), (52, .iload_n 1, []), (53, .ireturn, [])]
def zk_72 : List zR := [(0, .iload_n 1, []), (1, .tableswitch 109 0 7 #[47, 55, 63, 63, 74, 74, 85, 93], [36, 2, 6, 10, 10, 17, 17, 24, 28, 47]), (48, .aload_n 0, []), (49, .getfield 10, [3, 0, 152]), (52, .invokevirtual 125, [11, 347, 336, 337]), (55, .ireturn, []), (56, .aload_n 0, []), (57, .getfield 10, [3, 0, 152]), (60, .invokevirtual 128, [26, 348, 349, 350]), (63, .ireturn, []), (64, .aload_n 0, []), (65, .getfield 10, [3, 0, 152]), (68, .iload_n 1, []), (69, .iconst 2, []), (70, .isub, []), (71, .invokevirtual 131, [20, 352, 353, 354]), (74, .ireturn, []), (75, .aload_n 0, []), (76, .getfield 10, [3, 0, 152]), (79, .iload_n 1, []), (80, .iconst 4, []), (81, .isub, []), (82, .invokevirtual 134, [21, 357, 358, 359]), (85, .ireturn, []), (86, .aload_n 0, []), (87, .getfield 10, [3, 0, 152]), (90, .invokevirtual 137, [39, 361, 362, 363]), (93, .ireturn, []), (94, .aload_n 0, []), (95, .getfield 10, [3, 0, 152]), (98, .invokevirtual 140, [28, 370, 371, 372]), (101, .ifCond .eq 7, [34]), (104, .iconst 1, []), (105, .goto 4, [35]), (108, .iconst 0, []), (109, .ireturn, []), (110, .iconst (-1), []), (111, .ireturn, [])]
def zk_73 : List zR := [(0, .aload_n 0, []), (1, .getfield 10, [3, 0, 152]), (4, .iload_n 1, []), (5, .invokevirtual 62, [12, 213, 214, 215]), (8, .ifCond .eq 10, [8]), (11, .iload_n 2, []), (12, .invokestatic 65, [95, 217, 218]), (15, .ifCond .ne 5, [10]), (18, .iconst (-1), []), (19, .ireturn, []), (20, .aload_n 0, []), (21, .getfield 10, [3, 0, 152]), (24, .iload_n 1, []), (25, .invokevirtual 92, [23, 256, 257, 258]), (28, .ifCond .ne 13, [19]), (31, .aload_n 0, []), (32, .getfield 10, [3, 0, 152]), (35, .invokevirtual 140, [28, 370, 371, 372]), (38, .ifCond .eq 6, [21]), (41, .bipush (-2), []), (43, .ireturn, []), (44, .aload_n 0, []), (45, .getfield 10, [3, 0, 152]), (48, .iload_n 1, []), (49, .iload_n 2, []), (50, .invokevirtual 143, [34, 378, 379, 380]), (53, .ifCond .eq 7, [29]), (56, .iconst 1, []), (57, .goto 4, [30]), (60, .iconst 0, []), (61, .ireturn, [])]
def zk_74 : List zR := [(0, .aload_n 0, []), (1, .iload_n 1, []), (2, .iload_n 2, []), (3, .invokevirtual 147, [73, 397, 375, 376]), (6, .istore_n 3, []), (7, .iload_n 3, []), (8, .ifCond .ge 5, [9]), (11, .iload_n 3, []), (12, .ireturn, []), (13, .iload_n 3, []), (14, .ifCond .ne 8, [13]), (17, .bipush (-4), []), (19, .goto 12, [18]), (22, .aload_n 0, []), (23, .getfield 10, [3, 0, 152]), (26, .iload_n 1, []), (27, .iload_n 2, []), (28, .invokevirtual 150, [37, 398, 399, 400]), (31, .ireturn, [])]
def zk_75 : List zR := [(0, .iload_n 1, []), (1, .iconst 1, []), (2, .bipush 12, []), (4, .invokestatic 46, [93, 184, 185]), (7, .ifCond .ne 5, [7]), (10, .iconst (-1), []), (11, .ireturn, []), (12, .iload_n 1, []), (13, .aload_n 0, []), (14, .getfield 10, [3, 0, 152]), (17, .invokevirtual 128, [26, 348, 349, 350]), (20, .if_icmp .le 6, [14]), (23, .bipush (-2), []), (25, .ireturn, []), (26, .aload_n 0, []), (27, .getfield 10, [3, 0, 152]), (30, .iload_n 1, []), (31, .invokevirtual 153, [40, 455, 456, 457]), (34, .aload_n 0, []), (35, .getfield 10, [3, 0, 152]), (38, .invokevirtual 128, [26, 348, 349, 350]), (41, .ireturn, [])]
def zk_76 : List zR := [(0, .iload_n 1, []), (1, .ifCond .eq 16, [8]), (4, .aload_n 0, []), (5, .getfield 10, [3, 0, 152]), (8, .invokevirtual 156, [36, 463, 464, 465]), (11, .ifCond .ne 6, [8]), (14, .bipush (-2), []), (16, .ireturn, []), (17, .aload_n 0, []), (18, .getfield 10, [3, 0, 152]), (21, .invokevirtual 140, [28, 370, 371, 372]), (24, .ifCond .eq 7, [14]), (27, .iconst 1, []), (28, .goto 4, [15]), (31, .iconst 0, []), (32, .istore_n 2, []), (33, .aload_n 0, []), (34, .getfield 10, [3, 0, 152]), (37, .iload_n 1, []), (38, .invokevirtual 159, [29, 467, 468, 469]), (41, .iload_n 2, []), (42, .ireturn, [])]
def zk_77 : List zR := [(0, .aload_n 0, []), (1, .getfield 10, [3, 0, 152]), (4, .invokevirtual 128, [26, 348, 349, 350]), (7, .ifCond .ne 8, [6]), (10, .bipush (-4), []), (12, .goto 17, [12]), (15, .aload_n 0, []), (16, .getfield 10, [3, 0, 152]), (19, .aload_n 0, []), (20, .getfield 10, [3, 0, 152]), (23, .invokevirtual 163, [43, 475, 403, 404]), (26, .invokevirtual 166, [44, 476, 415, 416]), (29, .ireturn, [])]
def zk_78 : List zR := [(0, .iload_n 1, []), (1, .bipush (-99), []), (3, .bipush 99, []), (5, .invokestatic 46, [93, 184, 185]), (8, .ifCond .ne 5, [7]), (11, .iconst (-1), []), (12, .ireturn, []), (13, .aload_n 0, []), (14, .getfield 10, [3, 0, 152]), (17, .invokevirtual 128, [26, 348, 349, 350]), (20, .ifCond .ne 6, [13]), (23, .bipush (-4), []), (25, .ireturn, []), (26, .iload_n 1, []), (27, .ifCond .eq 25, [26]), (30, .aload_n 0, []), (31, .getfield 10, [3, 0, 152]), (34, .iload_n 1, []), (35, .ifCond .ge 7, [21]), (38, .iconst (-1), []), (39, .goto 4, [22]), (42, .iconst 1, []), (43, .invokevirtual 166, [44, 476, 415, 416]), (46, .ifCond .eq 6, [26]), (49, .bipush (-2), []), (51, .ireturn, []), (52, .aload_n 0, []), (53, .getfield 10, [3, 0, 152]), (56, .iload_n 1, []), (57, .invokevirtual 169, [46, 481, 423, 424]), (60, .aload_n 0, []), (61, .getfield 10, [3, 0, 152]), (64, .invokevirtual 137, [39, 361, 362, 363]), (67, .ireturn, [])]
def zk_79 : List zR := [(0, .aload_n 0, []), (1, .invokevirtual 172, [100, 486, 488, 13]), (4, .istore_n 1, []), (5, .iload_n 1, []), (6, .ifCond .eq 7, [7]), (9, .iload_n 1, []), (10, .goto 10, [10]), (13, .aload_n 0, []), (14, .getfield 10, [3, 0, 152]), (17, .invokevirtual 175, [49, 490, 491, 492]), (20, .ireturn, [])]
def zk_80 : List zR := [(0, .aload_n 0, []), (1, .invokevirtual 172, [100, 486, 488, 13]), (4, .istore_n 1, []), (5, .iload_n 1, []), (6, .ifCond .eq 7, [7]), (9, .iload_n 1, []), (10, .goto 10, [10]), (13, .aload_n 0, []), (14, .getfield 10, [3, 0, 152]), (17, .invokevirtual 178, [51, 501, 502, 503]), (20, .ireturn, [])]
def zk_81 : List zR := [(0, .iload_n 1, []), (1, .invokestatic 181, [96, 513, 448]), (4, .ifCond .eq 12, [8]), (7, .iload_n 2, []), (8, .iconst 0, []), (9, .iconst 2, []), (10, .invokestatic 46, [93, 184, 185]), (13, .ifCond .ne 5, [10]), (16, .iconst (-1), []), (17, .ireturn, []), (18, .aload_n 0, []), (19, .getfield 10, [3, 0, 152]), (22, .invokevirtual 140, [28, 370, 371, 372]), (25, .ifCond .eq 6, [16]), (28, .bipush (-2), []), (30, .ireturn, []), (31, .bipush (-4), []), (33, .istore_n 3, []), (34, .iconst 0, []), (35, .istore 4, []), (37, .iconst 0, []), (38, .istore 5, []), (40, .iload 5, []), (42, .bipush 24, []), (44, .if_icmp .ge 51, [48]), (47, .aload_n 0, []), (48, .getfield 10, [3, 0, 152]), (51, .iload_n 1, []), (52, .iload 5, []), (54, .invokevirtual 184, [35, 514, 515, 516]), (57, .ifCond .eq 32, [46]), (60, .aload_n 0, []), (61, .iload_n 1, []), (62, .iload 5, []), (64, .invokevirtual 187, [101, 520, 522, 15]), (67, .istore 6, []), (69, .iload_n 3, []), (70, .bipush (-4), []), (72, .if_icmp .eq 10, [42]), (75, .iload 6, []), (77, .iload 4, []), (79, .if_icmp .le 10, [46]), (82, .iload 5, []), (84, .istore_n 3, []), (85, .iload 6, []), (87, .istore 4, []), (89, .iinc 5 1, []), (92, .goto (-52), [22]), (95, .iload_n 3, []), (96, .bipush (-4), []), (98, .if_icmp .ne 6, [53]), (101, .bipush (-4), []), (103, .ireturn, []), (104, .iload_n 2, []), (105, .ifCond .ne 9, [59]), (108, .iload_n 3, []), (109, .iconst 2, []), (110, .idiv, []), (111, .goto 19, [69]), (114, .iload_n 2, []), (115, .iconst 1, []), (116, .if_icmp .ne 9, [66]), (119, .iload_n 3, []), (120, .iconst 2, []), (121, .irem, []), (122, .goto 8, [69]), (125, .iload 4, []), (127, .bipush 100, []), (129, .iadd, []), (130, .ireturn, [])]
def zk_82 : List zR := [(0, .aload_n 0, []), (1, .getfield 10, [3, 0, 152]), (4, .iload_n 1, []), (5, .invokevirtual 62, [12, 213, 214, 215]), (8, .ifCond .eq 14, [10]), (11, .aload_n 0, []), (12, .getfield 10, [3, 0, 152]), (15, .iload_n 1, []), (16, .invokevirtual 92, [23, 256, 257, 258]), (19, .ifCond .ne 5, [12]), (22, .iconst (-1), []), (23, .ireturn, []), (24, .iload_n 2, []), (25, .iconst 0, []), (26, .aload_n 0, []), (27, .getfield 10, [3, 0, 152]), (30, .iload_n 1, []), (31, .aload_n 0, []), (32, .getfield 10, [3, 0, 152]), (35, .iload_n 1, []), (36, .invokevirtual 190, [25, 531, 438, 439]), (39, .invokevirtual 68, [15, 220, 221, 222]), (42, .iconst 1, []), (43, .isub, []), (44, .invokestatic 46, [93, 184, 185]), (47, .ifCond .ne 5, [28]), (50, .iconst (-1), []), (51, .ireturn, []), (52, .aload_n 0, []), (53, .invokevirtual 172, [100, 486, 488, 13]), (56, .istore_n 3, []), (57, .iload_n 3, []), (58, .ifCond .eq 7, [35]), (61, .iload_n 3, []), (62, .goto 12, [40]), (65, .aload_n 0, []), (66, .getfield 10, [3, 0, 152]), (69, .iload_n 1, []), (70, .iload_n 2, []), (71, .invokevirtual 193, [53, 532, 533, 534]), (74, .ireturn, [])]
def zk_83 : List zR := [(0, .iload_n 1, []), (1, .iconst 1, []), (2, .bipush 24, []), (4, .invokestatic 46, [93, 184, 185]), (7, .ifCond .ne 5, [7]), (10, .iconst (-1), []), (11, .ireturn, []), (12, .aload_n 0, []), (13, .getfield 10, [3, 0, 152]), (16, .invokevirtual 140, [28, 370, 371, 372]), (19, .ifCond .eq 6, [13]), (22, .bipush (-2), []), (24, .ireturn, []), (25, .iconst 0, []), (26, .istore_n 2, []), (27, .iconst 0, []), (28, .istore_n 3, []), (29, .iload_n 3, []), (30, .iload_n 1, []), (31, .if_icmp .ge 25, [30]), (34, .aload_n 0, []), (35, .getfield 10, [3, 0, 152]), (38, .iload_n 3, []), (39, .iconst 2, []), (40, .irem, []), (41, .invokevirtual 196, [54, 540, 541, 542]), (44, .ifCond .eq 6, [28]), (47, .iinc 2 1, []), (50, .iinc 3 1, []), (53, .goto (-24), [17]), (56, .iload_n 2, []), (57, .ireturn, [])]
def zk_84 : List zR := [(0, .iload_n 1, []), (1, .ifCond .ge 5, [4]), (4, .iconst (-1), []), (5, .ireturn, []), (6, .aload_n 0, []), (7, .getfield 10, [3, 0, 152]), (10, .invokevirtual 199, [30, 557, 558, 559]), (13, .istore_n 2, []), (14, .aload_n 0, []), (15, .getfield 10, [3, 0, 152]), (18, .iload_n 1, []), (19, .invokevirtual 202, [31, 561, 562, 563]), (22, .iload_n 2, []), (23, .ireturn, [])]
def zk_85 : List zR := [(0, .aload_n 0, []), (1, .getfield 16, [3, 1, 153]), (4, .aload_n 0, []), (5, .getfield 10, [3, 0, 152]), (8, .invokevirtual 111, [6, 285, 286, 287]), (11, .aload_n 0, []), (12, .iconst 1, []), (13, .putfield 205, [3, 2, 154]), (16, .iconst 1, []), (17, .ireturn, [])]
def zk_86 : List zR := [(0, .aload_n 0, []), (1, .getfield 205, [3, 2, 154]), (4, .ifCond .ne 6, [5]), (7, .bipush (-4), []), (9, .ireturn, []), (10, .aload_n 0, []), (11, .getfield 10, [3, 0, 152]), (14, .aload_n 0, []), (15, .getfield 16, [3, 1, 153]), (18, .invokevirtual 111, [6, 285, 286, 287]), (21, .iconst 1, []), (22, .ireturn, [])]
def zk_87 : List zR := [(0, .aload_n 0, []), (1, .iload_n 1, []), (2, .invokevirtual 209, [99, 577, 579, 17]), (5, .astore 5, []), (7, .aload 5, []), (9, .ifnull 21, [14]), (12, .iload_n 2, []), (13, .invokestatic 213, [97, 581, 582]), (16, .ifCond .eq 14, [14]), (19, .iload 4, []), (21, .iconst 1, []), (22, .bipush 12, []), (24, .invokestatic 46, [93, 184, 185]), (27, .ifCond .ne 5, [16]), (30, .iconst (-1), []), (31, .ireturn, []), (32, .aload 5, []), (34, .iload_n 2, []), (35, .iload_n 3, []), (36, .iconst 2, []), (37, .iload 4, []), (39, .imul, []), (40, .invokevirtual 216, [3, 584, 585, 586]), (43, .istore 6, []), (45, .iload 6, []), (47, .ifCond .eq 6, [28]), (50, .iload 6, []), (52, .ireturn, []), (53, .iconst 0, []), (54, .istore 7, []), (56, .iload 7, []), (58, .iload 4, []), (60, .if_icmp .ge 52, [59]), (63, .aload_n 0, []), (64, .getfield 10, [3, 0, 152]), (67, .aload 5, []), (69, .iload_n 3, []), (70, .iconst 2, []), (71, .iload 7, []), (73, .imul, []), (74, .iadd, []), (75, .invokevirtual 219, [4, 588, 589, 590]), (78, .invokevirtual 62, [12, 213, 214, 215]), (81, .ifCond .eq 22, [55]), (84, .aload 5, []), (86, .iload_n 3, []), (87, .iconst 2, []), (88, .iload 7, []), (90, .imul, []), (91, .iadd, []), (92, .iconst 1, []), (93, .iadd, []), (94, .invokevirtual 219, [4, 588, 589, 590]), (97, .invokestatic 65, [95, 217, 218]), (100, .ifCond .ne 6, [57]), (103, .bipush (-2), []), (105, .ireturn, []), (106, .iinc 7 1, []), (109, .goto (-53), [30]), (112, .aload_n 0, []), (113, .aload 5, []), (115, .iload_n 3, []), (116, .iload 4, []), (118, .invokevirtual 222, [102, 593, 595, 18]), (121, .ireturn, [])]
def zk_88 : List zR := [(0, .aload_n 0, []), (1, .iload_n 2, []), (2, .invokevirtual 209, [99, 577, 579, 17]), (5, .astore 6, []), (7, .iload_n 1, []), (8, .invokestatic 226, [175, 601, 602]), (11, .istore 7, []), (13, .aload 6, []), (15, .ifnull 21, [17]), (18, .iload_n 3, []), (19, .invokestatic 213, [97, 581, 582]), (22, .ifCond .eq 14, [17]), (25, .aload_n 0, []), (26, .getfield 10, [3, 0, 152]), (29, .iload_n 1, []), (30, .invokevirtual 231, [13, 607, 608, 609]), (33, .ifCond .ne 5, [19]), (36, .iconst (-1), []), (37, .ireturn, []), (38, .iload 7, []), (40, .iconst 2, []), (41, .iconst 5, []), (42, .invokestatic 46, [93, 184, 185]), (45, .ifCond .eq 16, [31]), (48, .iload 5, []), (50, .iconst (-1), []), (51, .iload 7, []), (53, .iconst 1, []), (54, .isub, []), (55, .invokestatic 46, [93, 184, 185]), (58, .ifCond .ne 5, [33]), (61, .iconst (-1), []), (62, .ireturn, []), (63, .aload 6, []), (65, .iload_n 3, []), (66, .iload 4, []), (68, .iconst 2, []), (69, .iload 7, []), (71, .imul, []), (72, .invokevirtual 216, [3, 584, 585, 586]), (75, .istore 8, []), (77, .iload 8, []), (79, .ifCond .eq 6, [45]), (82, .iload 8, []), (84, .ireturn, []), (85, .aload_n 0, []), (86, .iload_n 1, []), (87, .iload 7, []), (89, .aload 6, []), (91, .iload 4, []), (93, .invokevirtual 234, [103, 611, 613, 19]), (96, .istore 9, []), (98, .iload 9, []), (100, .ifCond .ne 6, [56]), (103, .bipush (-4), []), (105, .ireturn, []), (106, .iload 5, []), (108, .ifCond .ge 8, [60]), (111, .iload 9, []), (113, .goto 12, [64]), (116, .aload_n 0, []), (117, .getfield 42, [3, 8, 160]), (120, .iload 5, []), (122, .invokestatic 238, [109, 627, 225]), (125, .ireturn, [])]
def zk_89 : List zR := [(0, .aload_n 0, []), (1, .iload_n 1, []), (2, .invokevirtual 209, [99, 577, 579, 17]), (5, .astore 4, []), (7, .aload 4, []), (9, .ifnull 16, [12]), (12, .iload_n 2, []), (13, .invokestatic 213, [97, 581, 582]), (16, .ifCond .eq 9, [12]), (19, .iload_n 3, []), (20, .bipush 24, []), (22, .if_icmp .le 5, [14]), (25, .iconst (-1), []), (26, .ireturn, []), (27, .iload_n 3, []), (28, .ifCond .ge 6, [18]), (31, .bipush (-14), []), (33, .ireturn, []), (34, .aload 4, []), (36, .iload_n 2, []), (37, .iload_n 3, []), (38, .invokevirtual 242, [1, 641, 642, 643]), (41, .iload_n 3, []), (42, .ireturn, [])]
def zk_90 : List zR := [(0, .aload_n 0, []), (1, .iload_n 1, []), (2, .invokevirtual 209, [99, 577, 579, 17]), (5, .astore_n 2, []), (6, .aload_n 2, []), (7, .ifnonnull 5, [8]), (10, .iconst (-1), []), (11, .ireturn, []), (12, .aload_n 2, []), (13, .invokevirtual 245, [0, 650, 651, 652]), (16, .ifCond .eq 8, [13]), (19, .bipush (-11), []), (21, .goto 7, [15]), (24, .aload_n 2, []), (25, .invokevirtual 248, [2, 654, 655, 656]), (28, .ireturn, [])]
def zk_91 : List zR := [(0, .aload_n 0, []), (1, .iload_n 1, []), (2, .invokevirtual 209, [99, 577, 579, 17]), (5, .astore 5, []), (7, .aload 5, []), (9, .ifnull 10, [9]), (12, .iload_n 2, []), (13, .invokestatic 213, [97, 581, 582]), (16, .ifCond .ne 5, [11]), (19, .iconst (-1), []), (20, .ireturn, []), (21, .aload 5, []), (23, .iload_n 2, []), (24, .iload_n 3, []), (25, .iconst 1, []), (26, .invokevirtual 216, [3, 584, 585, 586]), (29, .istore 6, []), (31, .iload 6, []), (33, .ifCond .eq 6, [21]), (36, .iload 6, []), (38, .ireturn, []), (39, .aload 5, []), (41, .iload_n 3, []), (42, .iload 4, []), (44, .invokevirtual 251, [5, 662, 663, 664]), (47, .iconst 1, []), (48, .ireturn, [])]
def zk_92 : List zR := [(0, .aload_n 0, []), (1, .iload_n 1, []), (2, .invokevirtual 209, [99, 577, 579, 17]), (5, .astore 4, []), (7, .aload 4, []), (9, .ifnull 10, [9]), (12, .iload_n 2, []), (13, .invokestatic 213, [97, 581, 582]), (16, .ifCond .ne 5, [11]), (19, .iconst (-1), []), (20, .ireturn, []), (21, .iconst 2, []), (22, .aload_n 0, []), (23, .getfield 10, [3, 0, 152]), (26, .invokevirtual 128, [26, 348, 349, 350]), (29, .imul, []), (30, .istore 5, []), (32, .aload 4, []), (34, .iload_n 2, []), (35, .iload_n 3, []), (36, .iload 5, []), (38, .invokevirtual 216, [3, 584, 585, 586]), (41, .istore 6, []), (43, .iload 6, []), (45, .ifCond .eq 6, [27]), (48, .iload 6, []), (50, .ireturn, []), (51, .iconst 0, []), (52, .istore 7, []), (54, .iload 7, []), (56, .aload_n 0, []), (57, .getfield 10, [3, 0, 152]), (60, .invokevirtual 128, [26, 348, 349, 350]), (63, .if_icmp .ge 80, [73]), (66, .aload_n 0, []), (67, .getfield 10, [3, 0, 152]), (70, .iload 7, []), (72, .invokevirtual 254, [27, 670, 366, 367]), (75, .istore 8, []), (77, .aload 4, []), (79, .iload_n 3, []), (80, .iconst 2, []), (81, .iload 7, []), (83, .imul, []), (84, .iadd, []), (85, .aload_n 0, []), (86, .getfield 10, [3, 0, 152]), (89, .iload 8, []), (91, .aload_n 0, []), (92, .getfield 10, [3, 0, 152]), (95, .iload 8, []), (97, .invokevirtual 86, [24, 244, 245, 246]), (100, .invokevirtual 72, [16, 227, 228, 229]), (103, .invokevirtual 251, [5, 662, 663, 664]), (106, .aload 4, []), (108, .iload_n 3, []), (109, .iconst 2, []), (110, .iload 7, []), (112, .imul, []), (113, .iadd, []), (114, .iconst 1, []), (115, .iadd, []), (116, .aload_n 0, []), (117, .getfield 10, [3, 0, 152]), (120, .iload 8, []), (122, .aload_n 0, []), (123, .getfield 10, [3, 0, 152]), (126, .iload 8, []), (128, .invokevirtual 190, [25, 531, 438, 439]), (131, .invokevirtual 72, [16, 227, 228, 229]), (134, .invokevirtual 251, [5, 662, 663, 664]), (137, .iinc 7 1, []), (140, .goto (-86), [29]), (143, .iload 5, []), (145, .ireturn, [])]
def zk_93 : List zR := [(0, .iload_n 0, []), (1, .iload_n 1, []), (2, .if_icmp .lt 12, [8]), (5, .iload_n 0, []), (6, .iload_n 2, []), (7, .if_icmp .gt 7, [8]), (10, .iconst 1, []), (11, .goto 4, [9]), (14, .iconst 0, []), (15, .ireturn, [])]
def zk_94 : List zR := [(0, .iload_n 0, []), (1, .iconst 3, []), (2, .bipush 9, []), (4, .invokestatic 46, [93, 184, 185]), (7, .ireturn, [])]
def zk_95 : List zR := [(0, .iload_n 0, []), (1, .iconst 0, []), (2, .iconst 1, []), (3, .invokestatic 46, [93, 184, 185]), (6, .ireturn, [])]
def zk_96 : List zR := [(0, .iload_n 0, []), (1, .iconst 0, []), (2, .iconst 1, []), (3, .invokestatic 46, [93, 184, 185]), (6, .ireturn, [])]
def zk_97 : List zR := [(0, .iload_n 0, []), (1, .iconst 0, []), (2, .iconst 2, []), (3, .invokestatic 46, [93, 184, 185]), (6, .ireturn, [])]
def zk_98 : List zR := [(0, .lload_n 0, []), (1, .bipush 8, []), (3, .iload_n 2, []), (4, .imul, []), (5, .lushr, []), (6, .l2i, []), (7, .sipush 255, []), (10, .iand, []), (11, .ireturn, [])]
def zk_99 : List zR := [(0, .iload_n 1, []), (1, .ifCond .lt 21, [12]), (4, .iload_n 1, []), (5, .aload_n 0, []), (6, .getfield 34, [3, 6, 158]), (9, .arraylength, []), (10, .if_icmp .ge 12, [12]), (13, .aload_n 0, []), (14, .getfield 34, [3, 6, 158]), (17, .iload_n 1, []), (18, .aaload, []), (19, .goto 4, [13]), (22, .aconst_null, []), (23, .areturn, [])]
def zk_100 : List zR := [(0, .aload_n 0, []), (1, .getfield 10, [3, 0, 152]), (4, .invokevirtual 128, [26, 348, 349, 350]), (7, .ifCond .ne 6, [6]), (10, .bipush (-4), []), (12, .ireturn, []), (13, .aload_n 0, []), (14, .getfield 10, [3, 0, 152]), (17, .iconst 1, []), (18, .invokevirtual 166, [44, 476, 415, 416]), (21, .ifCond .eq 8, [13]), (24, .bipush (-2), []), (26, .goto 4, [14]), (29, .iconst 0, []), (30, .ireturn, [])]
def zk_101 : List zR := [(0, .aload_n 0, []), (1, .getfield 19, [3, 3, 155]), (4, .aload_n 0, []), (5, .getfield 10, [3, 0, 152]), (8, .invokevirtual 111, [6, 285, 286, 287]), (11, .aload_n 0, []), (12, .getfield 19, [3, 3, 155]), (15, .iload_n 2, []), (16, .iconst 2, []), (17, .idiv, []), (18, .iload_n 2, []), (19, .iconst 2, []), (20, .irem, []), (21, .invokevirtual 150, [37, 398, 399, 400]), (24, .istore_n 3, []), (25, .iconst 0, []), (26, .istore 4, []), (28, .iconst 0, []), (29, .istore 5, []), (31, .iload 5, []), (33, .bipush 24, []), (35, .if_icmp .ge 57, [49]), (38, .aload_n 0, []), (39, .getfield 19, [3, 3, 155]), (42, .iconst 1, []), (43, .iload_n 1, []), (44, .isub, []), (45, .iload 5, []), (47, .invokevirtual 184, [35, 514, 515, 516]), (50, .ifCond .eq 36, [47]), (53, .aload_n 0, []), (54, .getfield 22, [3, 4, 156]), (57, .aload_n 0, []), (58, .getfield 19, [3, 3, 155]), (61, .invokevirtual 111, [6, 285, 286, 287]), (64, .iload 4, []), (66, .aload_n 0, []), (67, .getfield 22, [3, 4, 156]), (70, .iload 5, []), (72, .iconst 2, []), (73, .idiv, []), (74, .iload 5, []), (76, .iconst 2, []), (77, .irem, []), (78, .invokevirtual 150, [37, 398, 399, 400]), (81, .invokestatic 257, [178, 524, 525]), (84, .istore 4, []), (86, .iinc 5 1, []), (89, .goto (-58), [19]), (92, .iload_n 3, []), (93, .iload 4, []), (95, .isub, []), (96, .ireturn, [])]
def zk_102 : List zR := [(0, .aload_n 0, []), (1, .getfield 19, [3, 3, 155]), (4, .aload_n 0, []), (5, .getfield 10, [3, 0, 152]), (8, .invokevirtual 111, [6, 285, 286, 287]), (11, .aload_n 0, []), (12, .getfield 19, [3, 3, 155]), (15, .aload_n 0, []), (16, .getfield 19, [3, 3, 155]), (19, .invokevirtual 128, [26, 348, 349, 350]), (22, .invokevirtual 153, [40, 455, 456, 457]), (25, .iconst 0, []), (26, .istore 4, []), (28, .iload 4, []), (30, .iload_n 3, []), (31, .if_icmp .ge 76, [55]), (34, .aload_n 1, []), (35, .iload_n 2, []), (36, .iconst 2, []), (37, .iload 4, []), (39, .imul, []), (40, .iadd, []), (41, .invokevirtual 219, [4, 588, 589, 590]), (44, .istore 5, []), (46, .aload_n 1, []), (47, .iload_n 2, []), (48, .iconst 2, []), (49, .iload 4, []), (51, .imul, []), (52, .iadd, []), (53, .iconst 1, []), (54, .iadd, []), (55, .invokevirtual 219, [4, 588, 589, 590]), (58, .istore 6, []), (60, .aload_n 0, []), (61, .getfield 19, [3, 3, 155]), (64, .iload 5, []), (66, .invokevirtual 92, [23, 256, 257, 258]), (69, .ifCond .ne 17, [45]), (72, .aload_n 0, []), (73, .getfield 19, [3, 3, 155]), (76, .iload 5, []), (78, .iload 6, []), (80, .invokevirtual 143, [34, 378, 379, 380]), (83, .ifCond .ne 6, [47]), (86, .iload 4, []), (88, .ireturn, []), (89, .aload_n 0, []), (90, .getfield 19, [3, 3, 155]), (93, .iload 5, []), (95, .iload 6, []), (97, .invokevirtual 150, [37, 398, 399, 400]), (100, .pop, []), (101, .iinc 4 1, []), (104, .goto (-76), [13]), (107, .bipush (-4), []), (109, .ireturn, [])]
def zk_103 : List zR := [(0, .aload_n 0, []), (1, .getfield 19, [3, 3, 155]), (4, .aload_n 0, []), (5, .getfield 10, [3, 0, 152]), (8, .invokevirtual 111, [6, 285, 286, 287]), (11, .aload_n 0, []), (12, .getfield 19, [3, 3, 155]), (15, .aload_n 0, []), (16, .getfield 19, [3, 3, 155]), (19, .invokevirtual 128, [26, 348, 349, 350]), (22, .invokevirtual 153, [40, 455, 456, 457]), (25, .aload_n 0, []), (26, .iload_n 1, []), (27, .invokevirtual 262, [104, 615, 617, 20]), (30, .iconst 0, []), (31, .istore 5, []), (33, .iconst 1, []), (34, .istore 6, []), (36, .iconst 0, []), (37, .istore 7, []), (39, .iload 7, []), (41, .bipush 120, []), (43, .if_icmp .ge 52, [46]), (46, .iload 6, []), (48, .ifCond .eq 47, [46]), (51, .aload_n 0, []), (52, .iload_n 1, []), (53, .iload_n 2, []), (54, .aload_n 3, []), (55, .iload 4, []), (57, .invokevirtual 265, [107, 623, 625, 21]), (60, .ifCond .eq 22, [40]), (63, .iload 5, []), (65, .ifCond .ne 14, [39]), (68, .aload_n 0, []), (69, .getfield 38, [3, 7, 159]), (72, .aload_n 0, []), (73, .getfield 42, [3, 8, 160]), (76, .invokestatic 269, [111, 628, 290]), (79, .iinc 5 1, []), (82, .aload_n 0, []), (83, .iload_n 2, []), (84, .invokevirtual 273, [105, 629, 631, 22]), (87, .istore 6, []), (89, .iinc 7 1, []), (92, .goto (-53), [20]), (95, .iload 5, []), (97, .ireturn, [])]
def zk_104 : List zR := [(0, .iconst 0, []), (1, .istore_n 2, []), (2, .iconst 0, []), (3, .istore_n 3, []), (4, .iload_n 3, []), (5, .bipush 12, []), (7, .if_icmp .ge 29, [19]), (10, .iload_n 1, []), (11, .iload_n 3, []), (12, .invokestatic 276, [108, 619, 620]), (15, .ifCond .eq 15, [17]), (18, .aload_n 0, []), (19, .getfield 38, [3, 7, 159]), (22, .iload_n 2, []), (23, .iload_n 3, []), (24, .invokestatic 279, [110, 622, 199]), (27, .iinc 2 1, []), (30, .iinc 3 1, []), (33, .goto (-29), [4]), (36, .return_, [])]
def zk_105 : List zR := [(0, .iload_n 1, []), (1, .iconst 2, []), (2, .isub, []), (3, .istore_n 2, []), (4, .iload_n 2, []), (5, .ifCond .lt 30, [19]), (8, .aload_n 0, []), (9, .getfield 38, [3, 7, 159]), (12, .iload_n 2, []), (13, .invokestatic 238, [109, 627, 225]), (16, .aload_n 0, []), (17, .getfield 38, [3, 7, 159]), (20, .iload_n 2, []), (21, .iconst 1, []), (22, .iadd, []), (23, .invokestatic 238, [109, 627, 225]), (26, .if_icmp .le 9, [19]), (29, .iinc 2 (-1), []), (32, .goto (-28), [4]), (35, .iload_n 2, []), (36, .ifCond .ge 5, [23]), (39, .iconst 0, []), (40, .ireturn, []), (41, .iload_n 1, []), (42, .iconst 1, []), (43, .isub, []), (44, .istore_n 3, []), (45, .iload_n 3, []), (46, .iload_n 2, []), (47, .if_icmp .le 28, [41]), (50, .aload_n 0, []), (51, .getfield 38, [3, 7, 159]), (54, .iload_n 3, []), (55, .invokestatic 238, [109, 627, 225]), (58, .aload_n 0, []), (59, .getfield 38, [3, 7, 159]), (62, .iload_n 2, []), (63, .invokestatic 238, [109, 627, 225]), (66, .if_icmp .ge 9, [41]), (69, .iinc 3 (-1), []), (72, .goto (-27), [27]), (75, .aload_n 0, []), (76, .iload_n 2, []), (77, .iload_n 3, []), (78, .invokevirtual 283, [106, 633, 635, 23]), (81, .iload_n 2, []), (82, .iconst 1, []), (83, .iadd, []), (84, .istore 4, []), (86, .iload_n 1, []), (87, .iconst 1, []), (88, .isub, []), (89, .istore 5, []), (91, .iload 4, []), (93, .iload 5, []), (95, .if_icmp .ge 20, [63]), (98, .aload_n 0, []), (99, .iload 4, []), (101, .iload 5, []), (103, .invokevirtual 283, [106, 633, 635, 23]), (106, .iinc 4 1, []), (109, .iinc 5 (-1), []), (112, .goto (-21), [53]), (115, .iconst 1, []), (116, .ireturn, [])]
def zk_106 : List zR := [(0, .aload_n 0, []), (1, .getfield 38, [3, 7, 159]), (4, .iload_n 1, []), (5, .invokestatic 238, [109, 627, 225]), (8, .istore_n 3, []), (9, .aload_n 0, []), (10, .getfield 38, [3, 7, 159]), (13, .iload_n 1, []), (14, .aload_n 0, []), (15, .getfield 38, [3, 7, 159]), (18, .iload_n 2, []), (19, .invokestatic 238, [109, 627, 225]), (22, .invokestatic 279, [110, 622, 199]), (25, .aload_n 0, []), (26, .getfield 38, [3, 7, 159]), (29, .iload_n 2, []), (30, .iload_n 3, []), (31, .invokestatic 279, [110, 622, 199]), (34, .return_, [])]
def zk_107 : List zR := [(0, .aload_n 0, []), (1, .getfield 22, [3, 4, 156]), (4, .aload_n 0, []), (5, .getfield 19, [3, 3, 155]), (8, .invokevirtual 111, [6, 285, 286, 287]), (11, .iconst 0, []), (12, .istore 5, []), (14, .iload 5, []), (16, .iload_n 2, []), (17, .if_icmp .ge 46, [31]), (20, .aload_n 0, []), (21, .getfield 38, [3, 7, 159]), (24, .iload 5, []), (26, .invokestatic 238, [109, 627, 225]), (29, .istore 6, []), (31, .aload_n 0, []), (32, .getfield 22, [3, 4, 156]), (35, .iload 6, []), (37, .iconst 0, []), (38, .invokevirtual 143, [34, 378, 379, 380]), (41, .ifCond .ne 5, [23]), (44, .iconst 0, []), (45, .ireturn, []), (46, .aload_n 0, []), (47, .getfield 22, [3, 4, 156]), (50, .iload 6, []), (52, .iconst 0, []), (53, .invokevirtual 150, [37, 398, 399, 400]), (56, .pop, []), (57, .iinc 5 1, []), (60, .goto (-46), [7]), (63, .iload 4, []), (65, .istore 5, []), (67, .iconst 0, []), (68, .istore 6, []), (70, .iload 6, []), (72, .bipush 12, []), (74, .if_icmp .ge 63, [67]), (77, .iload_n 1, []), (78, .iload 6, []), (80, .invokestatic 276, [108, 619, 620]), (83, .ifCond .eq 48, [65]), (86, .aload_n 0, []), (87, .getfield 22, [3, 4, 156]), (90, .iload 6, []), (92, .iconst 0, []), (93, .invokevirtual 72, [16, 227, 228, 229]), (96, .aload_n 3, []), (97, .iload 5, []), (99, .invokevirtual 219, [4, 588, 589, 590]), (102, .if_icmp .ne 24, [62]), (105, .aload_n 0, []), (106, .getfield 22, [3, 4, 156]), (109, .iload 6, []), (111, .iconst 1, []), (112, .invokevirtual 72, [16, 227, 228, 229]), (115, .aload_n 3, []), (116, .iload 5, []), (118, .iconst 1, []), (119, .iadd, []), (120, .invokevirtual 219, [4, 588, 589, 590]), (123, .if_icmp .eq 5, [64]), (126, .iconst 0, []), (127, .ireturn, []), (128, .iinc 5 2, []), (131, .iinc 6 1, []), (134, .goto (-64), [35]), (137, .iconst 1, []), (138, .ireturn, [])]
def zk_108 : List zR := [(0, .iload_n 0, []), (1, .iload_n 1, []), (2, .ishr, []), (3, .iconst 1, []), (4, .iand, []), (5, .ifCond .eq 7, [8]), (8, .iconst 1, []), (9, .goto 4, [9]), (12, .iconst 0, []), (13, .ireturn, [])]
def zk_109 : List zR := [(0, .iload_n 1, []), (1, .ifCond .lt 15, [10]), (4, .iload_n 1, []), (5, .aload_n 0, []), (6, .arraylength, []), (7, .if_icmp .ge 9, [10]), (10, .aload_n 0, []), (11, .iload_n 1, []), (12, .iaload, []), (13, .goto 4, [11]), (16, .iconst 0, []), (17, .ireturn, [])]
def zk_110 : List zR := [(0, .iload_n 1, []), (1, .ifCond .lt 13, [10]), (4, .iload_n 1, []), (5, .aload_n 0, []), (6, .arraylength, []), (7, .if_icmp .ge 7, [10]), (10, .aload_n 0, []), (11, .iload_n 1, []), (12, .iload_n 2, []), (13, .iastore, []), (14, .return_, [])]
def zk_111 : List zR := [(0, .aload_n 0, []), (1, .iconst 0, []), (2, .aload_n 1, []), (3, .iconst 0, []), (4, .aload_n 0, []), (5, .arraylength, []), (6, .aload_n 1, []), (7, .arraylength, []), (8, .invokestatic 286, [179, 292, 293]), (11, .invokestatic 289, [999, 295, 297, 296, 62]), (14, .return_, [])]
def zk_112 : List zR := [(0, .lload_n 0, []), (1, .lload_n 2, []), (2, .lcmp, []), (3, .ifCond .lt 14, [10]), (6, .lload_n 0, []), (7, .lload 4, []), (9, .lcmp, []), (10, .ifCond .gt 7, [10]), (13, .iconst 1, []), (14, .goto 4, [11]), (17, .iconst 0, []), (18, .ireturn, [])]
def zk_113 : List zR := [(0, .iload_n 1, []), (1, .i2l, []), (2, .lconst 0, []), (3, .aload_n 0, []), (4, .getfield 71, [4, 1, 678]), (7, .iconst 1, []), (8, .isub, []), (9, .i2l, []), (10, .invokestatic 74, [112, 767, 768]), (13, .ireturn, [])]
def zk_114 : List zR := [(0, .aload_n 0, []), (1, .getfield 7, [4, 0, 677]), (4, .bipush 6, []), (6, .iload_n 1, []), (7, .imul, []), (8, .iconst 1, []), (9, .iadd, []), (10, .iload_n 2, []), (11, .iadd, []), (12, .iaload, []), (13, .ireturn, [])]
def zk_115 : List zR := [(0, .bipush 6, []), (2, .aload_n 0, []), (3, .getfield 71, [4, 1, 678]), (6, .imul, []), (7, .istore 6, []), (9, .aload_n 0, []), (10, .getfield 7, [4, 0, 677]), (13, .iload 6, []), (15, .iload_n 1, []), (16, .iastore, []), (17, .aload_n 0, []), (18, .getfield 7, [4, 0, 677]), (21, .iload 6, []), (23, .iconst 1, []), (24, .iadd, []), (25, .iload_n 2, []), (26, .iastore, []), (27, .aload_n 0, []), (28, .getfield 7, [4, 0, 677]), (31, .iload 6, []), (33, .iconst 2, []), (34, .iadd, []), (35, .iload_n 3, []), (36, .iastore, []), (37, .aload_n 0, []), (38, .getfield 7, [4, 0, 677]), (41, .iload 6, []), (43, .iconst 3, []), (44, .iadd, []), (45, .iload 4, []), (47, .iastore, []), (48, .aload_n 0, []), (49, .getfield 7, [4, 0, 677]), (52, .iload 6, []), (54, .iconst 4, []), (55, .iadd, []), (56, .iload 5, []), (58, .iastore, []), (59, .aload_n 0, []), (60, .getfield 7, [4, 0, 677]), (63, .iload 6, []), (65, .iconst 5, []), (66, .iadd, []), (67, .bipush (-4), []), (69, .iastore, []), (70, .aload_n 0, []), (71, .dup, []), (72, .getfield 71, [4, 1, 678]), (75, .iconst 1, []), (76, .iadd, []), (77, .putfield 71, [4, 1, 678]), (80, .return_, [])]
def zk_116 : List zR := [(0, .iload_n 1, []), (1, .i2l, []), (2, .lconst 0, []), (3, .ldc2_w 78, [3, 0, 766]), (6, .invokestatic 74, [112, 767, 768]), (9, .ifCond .eq 31, [18]), (12, .iload_n 2, []), (13, .i2l, []), (14, .ldc2_w 78, [3, 0, 766]), (17, .ldc2_w 80, [9, 0, 770]), (20, .invokestatic 74, [112, 767, 768]), (23, .ifCond .eq 17, [18]), (26, .iload_n 3, []), (27, .i2l, []), (28, .ldc2_w 78, [3, 0, 766]), (31, .ldc2_w 80, [9, 0, 770]), (34, .invokestatic 74, [112, 767, 768]), (37, .ifCond .ne 5, [20]), (40, .iconst (-1), []), (41, .ireturn, []), (42, .aload_n 0, []), (43, .getfield 71, [4, 1, 678]), (46, .bipush 12, []), (48, .if_icmp .ne 6, [26]), (51, .bipush (-3), []), (53, .ireturn, []), (54, .aload_n 0, []), (55, .iload_n 1, []), (56, .iload_n 2, []), (57, .iload_n 3, []), (58, .iconst 0, []), (59, .iconst 0, []), (60, .invokevirtual 82, [115, 771, 773, 24]), (63, .aload_n 0, []), (64, .getfield 71, [4, 1, 678]), (67, .iconst 1, []), (68, .isub, []), (69, .ireturn, [])]
def zk_117 : List zR := [(0, .aload_n 0, []), (1, .iload_n 1, []), (2, .invokevirtual 86, [113, 779, 781, 25]), (5, .ifCond .eq 31, [22]), (8, .iload_n 2, []), (9, .i2l, []), (10, .lconst 0, []), (11, .lconst 1, []), (12, .invokestatic 74, [112, 767, 768]), (15, .ifCond .eq 21, [22]), (18, .iload_n 3, []), (19, .i2l, []), (20, .lconst 0, []), (21, .aload_n 0, []), (22, .iload_n 1, []), (23, .iload_n 2, []), (24, .invokevirtual 90, [114, 783, 785, 26]), (27, .iconst 1, []), (28, .isub, []), (29, .i2l, []), (30, .invokestatic 74, [112, 767, 768]), (33, .ifCond .ne 5, [24]), (36, .iconst (-1), []), (37, .ireturn, []), (38, .aload_n 0, []), (39, .getfield 7, [4, 0, 677]), (42, .bipush 6, []), (44, .iload_n 1, []), (45, .imul, []), (46, .iconst 3, []), (47, .iadd, []), (48, .iload_n 2, []), (49, .iadd, []), (50, .iaload, []), (51, .istore 4, []), (53, .aload_n 0, []), (54, .getfield 7, [4, 0, 677]), (57, .bipush 6, []), (59, .iload_n 1, []), (60, .imul, []), (61, .iconst 3, []), (62, .iadd, []), (63, .iload_n 2, []), (64, .iadd, []), (65, .iload_n 3, []), (66, .iastore, []), (67, .iload 4, []), (69, .ireturn, [])]
def zk_118 : List zR := [(0, .bipush (-4), []), (2, .istore_n 2, []), (3, .iconst 0, []), (4, .istore_n 3, []), (5, .iload_n 3, []), (6, .aload_n 0, []), (7, .getfield 94, [4, 4, 681]), (10, .if_icmp .ge 25, [20]), (13, .aload_n 0, []), (14, .getfield 13, [4, 2, 679]), (17, .iload_n 3, []), (18, .iaload, []), (19, .iload_n 1, []), (20, .if_icmp .ne 7, [16]), (23, .iload_n 3, []), (24, .goto 4, [17]), (27, .iload_n 2, []), (28, .istore_n 2, []), (29, .iinc 3 1, []), (32, .goto (-27), [4]), (35, .iload_n 2, []), (36, .ireturn, [])]
def zk_119 : List zR := [(0, .aload_n 0, []), (1, .iload_n 1, []), (2, .invokevirtual 86, [113, 779, 781, 25]), (5, .ifCond .eq 15, [10]), (8, .iload_n 2, []), (9, .i2l, []), (10, .lconst 0, []), (11, .ldc2_w 97, [7, 0, 791]), (14, .invokestatic 74, [112, 767, 768]), (17, .ifCond .ne 5, [12]), (20, .iconst (-1), []), (21, .ireturn, []), (22, .aload_n 0, []), (23, .iload_n 1, []), (24, .invokevirtual 99, [118, 792, 794, 27]), (27, .istore_n 3, []), (28, .iload_n 2, []), (29, .iconst 5, []), (30, .if_icmp .ge 17, [28]), (33, .aload_n 0, []), (34, .getfield 7, [4, 0, 677]), (37, .bipush 6, []), (39, .iload_n 1, []), (40, .imul, []), (41, .iload_n 2, []), (42, .iadd, []), (43, .iaload, []), (44, .goto 47, [53]), (47, .iload_n 2, []), (48, .iconst 5, []), (49, .if_icmp .ne 7, [33]), (52, .iload_n 3, []), (53, .goto 38, [53]), (56, .iload_n 2, []), (57, .bipush 6, []), (59, .if_icmp .ne 21, [45]), (62, .iload_n 3, []), (63, .ifCond .ge 8, [40]), (66, .bipush (-4), []), (68, .goto 23, [53]), (71, .aload_n 0, []), (72, .getfield 16, [4, 3, 680]), (75, .iload_n 3, []), (76, .iaload, []), (77, .goto 14, [53]), (80, .aload_n 0, []), (81, .getfield 7, [4, 0, 677]), (84, .bipush 6, []), (86, .iload_n 1, []), (87, .imul, []), (88, .iconst 5, []), (89, .iadd, []), (90, .iaload, []), (91, .ireturn, [])]
def zk_120 : List zR := [(0, .aload_n 0, []), (1, .iload_n 1, []), (2, .invokevirtual 86, [113, 779, 781, 25]), (5, .ifCond .eq 15, [10]), (8, .iload_n 2, []), (9, .i2l, []), (10, .ldc2_w 103, [1, 1, 800]), (13, .lconst 1, []), (14, .invokestatic 74, [112, 767, 768]), (17, .ifCond .ne 5, [12]), (20, .iconst (-1), []), (21, .ireturn, []), (22, .aload_n 0, []), (23, .iload_n 1, []), (24, .invokevirtual 99, [118, 792, 794, 27]), (27, .ifCond .lt 6, [18]), (30, .bipush (-2), []), (32, .ireturn, []), (33, .aload_n 0, []), (34, .getfield 7, [4, 0, 677]), (37, .bipush 6, []), (39, .iload_n 1, []), (40, .imul, []), (41, .iconst 5, []), (42, .iadd, []), (43, .iaload, []), (44, .istore_n 3, []), (45, .aload_n 0, []), (46, .getfield 7, [4, 0, 677]), (49, .bipush 6, []), (51, .iload_n 1, []), (52, .imul, []), (53, .iconst 5, []), (54, .iadd, []), (55, .iload_n 2, []), (56, .ifCond .ge 8, [38]), (59, .bipush (-4), []), (61, .goto 4, [39]), (64, .iload_n 2, []), (65, .iastore, []), (66, .iload_n 3, []), (67, .ireturn, [])]
def zk_121 : List zR := [(0, .iload_n 3, []), (1, .i2l, []), (2, .lconst 1, []), (3, .ldc2_w 105, [8, 0, 805]), (6, .invokestatic 74, [112, 767, 768]), (9, .ifCond .ne 5, [8]), (12, .iconst (-1), []), (13, .ireturn, []), (14, .iload_n 3, []), (15, .iconst 1, []), (16, .isub, []), (17, .istore 4, []), (19, .iload 4, []), (21, .ifCond .lt 34, [29]), (24, .lload_n 1, []), (25, .bipush 8, []), (27, .iload 4, []), (29, .imul, []), (30, .lshr, []), (31, .ldc2_w 107, [255, 0, 806]), (34, .land, []), (35, .ldc2_w 109, [32, 0, 807]), (38, .ldc2_w 111, [126, 0, 808]), (41, .invokestatic 74, [112, 767, 768]), (44, .ifCond .ne 5, [27]), (47, .iconst (-1), []), (48, .ireturn, []), (49, .iinc 4 (-1), []), (52, .goto (-33), [12]), (55, .aload_n 0, []), (56, .getfield 113, [4, 9, 686]), (59, .iload_n 3, []), (60, .iadd, []), (61, .bipush 80, []), (63, .if_icmp .le 6, [37]), (66, .bipush (-3), []), (68, .ireturn, []), (69, .iload_n 3, []), (70, .iconst 1, []), (71, .isub, []), (72, .istore 4, []), (74, .iload 4, []), (76, .ifCond .lt 40, [64]), (79, .aload_n 0, []), (80, .getfield 26, [4, 8, 685]), (83, .aload_n 0, []), (84, .getfield 113, [4, 9, 686]), (87, .lload_n 1, []), (88, .bipush 8, []), (90, .iload 4, []), (92, .imul, []), (93, .lshr, []), (94, .ldc2_w 107, [255, 0, 806]), (97, .land, []), (98, .l2i, []), (99, .iastore, []), (100, .aload_n 0, []), (101, .dup, []), (102, .getfield 113, [4, 9, 686]), (105, .iconst 1, []), (106, .iadd, []), (107, .putfield 113, [4, 9, 686]), (110, .iinc 4 (-1), []), (113, .goto (-39), [41]), (116, .aload_n 0, []), (117, .getfield 113, [4, 9, 686]), (120, .ireturn, [])]
def zk_122 : List zR := [(0, .aload_n 0, []), (1, .getfield 116, [4, 10, 687]), (4, .aload_n 0, []), (5, .getfield 113, [4, 9, 686]), (8, .if_icmp .ge 30, [19]), (11, .aload_n 0, []), (12, .getfield 26, [4, 8, 685]), (15, .aload_n 0, []), (16, .getfield 116, [4, 10, 687]), (19, .iaload, []), (20, .bipush 32, []), (22, .if_icmp .ne 16, [19]), (25, .aload_n 0, []), (26, .dup, []), (27, .getfield 116, [4, 10, 687]), (30, .iconst 1, []), (31, .iadd, []), (32, .putfield 116, [4, 10, 687]), (35, .goto (-35), [0]), (38, .aload_n 0, []), (39, .getfield 116, [4, 10, 687]), (42, .aload_n 0, []), (43, .getfield 113, [4, 9, 686]), (46, .if_icmp .ge 15, [30]), (49, .aload_n 0, []), (50, .getfield 26, [4, 8, 685]), (53, .aload_n 0, []), (54, .getfield 116, [4, 10, 687]), (57, .iaload, []), (58, .goto 4, [31]), (61, .iconst (-1), []), (62, .ireturn, [])]
def zk_123 : List zR := [(0, .aload_n 0, []), (1, .invokevirtual 119, [122, 825, 827, 31]), (4, .bipush 48, []), (6, .isub, []), (7, .istore 4, []), (9, .iload 4, []), (11, .i2l, []), (12, .iload_n 2, []), (13, .i2l, []), (14, .iload_n 3, []), (15, .i2l, []), (16, .invokestatic 74, [112, 767, 768]), (19, .ifCond .ne 5, [15]), (22, .iconst 0, []), (23, .ireturn, []), (24, .aload_n 0, []), (25, .getfield 29, [4, 12, 689]), (28, .iload_n 1, []), (29, .iload 4, []), (31, .iastore, []), (32, .aload_n 0, []), (33, .dup, []), (34, .getfield 116, [4, 10, 687]), (37, .iconst 1, []), (38, .iadd, []), (39, .putfield 116, [4, 10, 687]), (42, .iconst 1, []), (43, .ireturn, [])]
def zk_124 : List zR := [(0, .aload_n 0, []), (1, .iload_n 1, []), (2, .iconst 1, []), (3, .iadd, []), (4, .iconst 3, []), (5, .bipush 9, []), (7, .invokevirtual 123, [123, 821, 823, 30]), (10, .ifCond .eq 16, [16]), (13, .aload_n 0, []), (14, .iload_n 1, []), (15, .iconst 2, []), (16, .iadd, []), (17, .iconst 3, []), (18, .bipush 9, []), (20, .invokevirtual 123, [123, 821, 823, 30]), (23, .ifCond .ne 5, [18]), (26, .iconst 0, []), (27, .ireturn, []), (28, .aload_n 0, []), (29, .invokevirtual 119, [122, 825, 827, 31]), (32, .istore_n 2, []), (33, .aload_n 0, []), (34, .getfield 29, [4, 12, 689]), (37, .iload_n 1, []), (38, .iload_n 2, []), (39, .bipush 112, []), (41, .if_icmp .ne 7, [29]), (44, .iconst 1, []), (45, .goto 24, [40]), (48, .iload_n 2, []), (49, .bipush 115, []), (51, .if_icmp .ne 7, [34]), (54, .iconst 2, []), (55, .goto 14, [40]), (58, .iload_n 2, []), (59, .bipush 104, []), (61, .if_icmp .ne 7, [39]), (64, .iconst 3, []), (65, .goto 4, [40]), (68, .iconst 0, []), (69, .iastore, []), (70, .aload_n 0, []), (71, .dup, []), (72, .getfield 116, [4, 10, 687]), (75, .aload_n 0, []), (76, .getfield 29, [4, 12, 689]), (79, .iload_n 1, []), (80, .iaload, []), (81, .ifCond .le 7, [51]), (84, .iconst 1, []), (85, .goto 4, [52]), (88, .iconst 0, []), (89, .iadd, []), (90, .putfield 116, [4, 10, 687]), (93, .aload_n 0, []), (94, .getfield 29, [4, 12, 689]), (97, .iload_n 1, []), (98, .iconst 3, []), (99, .iadd, []), (100, .iconst 0, []), (101, .iastore, []), (102, .aload_n 0, []), (103, .getfield 29, [4, 12, 689]), (106, .iload_n 1, []), (107, .iconst 4, []), (108, .iadd, []), (109, .iconst 0, []), (110, .iastore, []), (111, .aload_n 0, []), (112, .invokevirtual 119, [122, 825, 827, 31]), (115, .bipush 64, []), (117, .if_icmp .ne 61, [112]), (120, .aload_n 0, []), (121, .dup, []), (122, .getfield 116, [4, 10, 687]), (125, .iconst 1, []), (126, .iadd, []), (127, .putfield 116, [4, 10, 687]), (130, .aload_n 0, []), (131, .iload_n 1, []), (132, .iconst 3, []), (133, .iadd, []), (134, .iconst 0, []), (135, .aload_n 0, []), (136, .getfield 29, [4, 12, 689]), (139, .iload_n 1, []), (140, .iconst 1, []), (141, .iadd, []), (142, .iaload, []), (143, .iconst 1, []), (144, .isub, []), (145, .invokevirtual 123, [123, 821, 823, 30]), (148, .ifCond .eq 28, [110]), (151, .aload_n 0, []), (152, .iload_n 1, []), (153, .iconst 4, []), (154, .iadd, []), (155, .iconst 0, []), (156, .aload_n 0, []), (157, .getfield 29, [4, 12, 689]), (160, .iload_n 1, []), (161, .iconst 2, []), (162, .iadd, []), (163, .iaload, []), (164, .iconst 1, []), (165, .isub, []), (166, .invokevirtual 123, [123, 821, 823, 30]), (169, .ifCond .eq 7, [110]), (172, .iconst 1, []), (173, .goto 4, [111]), (176, .iconst 0, []), (177, .ireturn, []), (178, .iconst 1, []), (179, .ireturn, [])]
def zk_125 : List zR := [(0, .aload_n 0, []), (1, .iconst 0, []), (2, .putfield 116, [4, 10, 687]), (5, .iconst 0, []), (6, .istore_n 1, []), (7, .iload_n 1, []), (8, .bipush 8, []), (10, .if_icmp .ge 63, [44]), (13, .aload_n 0, []), (14, .iconst 5, []), (15, .iload_n 1, []), (16, .imul, []), (17, .invokevirtual 127, [124, 817, 819, 29]), (20, .ifCond .ne 5, [16]), (23, .iconst 0, []), (24, .ireturn, []), (25, .aload_n 0, []), (26, .iload_n 1, []), (27, .iconst 1, []), (28, .iadd, []), (29, .putfield 130, [4, 11, 688]), (32, .aload_n 0, []), (33, .invokevirtual 119, [122, 825, 827, 31]), (36, .istore_n 2, []), (37, .iload_n 2, []), (38, .ifCond .ge 5, [28]), (41, .iconst 1, []), (42, .ireturn, []), (43, .iload_n 2, []), (44, .bipush 44, []), (46, .if_icmp .ne 9, [34]), (49, .iload_n 1, []), (50, .bipush 7, []), (52, .if_icmp .ne 5, [36]), (55, .iconst 0, []), (56, .ireturn, []), (57, .aload_n 0, []), (58, .dup, []), (59, .getfield 116, [4, 10, 687]), (62, .iconst 1, []), (63, .iadd, []), (64, .putfield 116, [4, 10, 687]), (67, .iinc 1 1, []), (70, .goto (-63), [5]), (73, .iconst 0, []), (74, .ireturn, [])]
def zk_126 : List zR := [(0, .aload_n 0, []), (1, .invokevirtual 133, [125, 813, 815, 28]), (4, .istore_n 1, []), (5, .aload_n 0, []), (6, .iconst 0, []), (7, .putfield 113, [4, 9, 686]), (10, .iload_n 1, []), (11, .ifCond .ne 11, [13]), (14, .bipush (-20), []), (16, .aload_n 0, []), (17, .getfield 116, [4, 10, 687]), (20, .isub, []), (21, .ireturn, []), (22, .aload_n 0, []), (23, .iconst 0, []), (24, .putfield 71, [4, 1, 678]), (27, .aload_n 0, []), (28, .iconst 0, []), (29, .putfield 94, [4, 4, 681]), (32, .aload_n 0, []), (33, .getfield 19, [4, 5, 682]), (36, .iconst 0, []), (37, .iconst 0, []), (38, .iastore, []), (39, .aload_n 0, []), (40, .getfield 19, [4, 5, 682]), (43, .iconst 1, []), (44, .iconst 0, []), (45, .iastore, []), (46, .aload_n 0, []), (47, .iconst 0, []), (48, .putfield 137, [4, 6, 683]), (51, .iconst 0, []), (52, .istore_n 2, []), (53, .iload_n 2, []), (54, .aload_n 0, []), (55, .getfield 130, [4, 11, 688]), (58, .if_icmp .ge 61, [80]), (61, .aload_n 0, []), (62, .aload_n 0, []), (63, .getfield 29, [4, 12, 689]), (66, .iconst 5, []), (67, .iload_n 2, []), (68, .imul, []), (69, .iaload, []), (70, .aload_n 0, []), (71, .getfield 29, [4, 12, 689]), (74, .iconst 5, []), (75, .iload_n 2, []), (76, .imul, []), (77, .iconst 1, []), (78, .iadd, []), (79, .iaload, []), (80, .aload_n 0, []), (81, .getfield 29, [4, 12, 689]), (84, .iconst 5, []), (85, .iload_n 2, []), (86, .imul, []), (87, .iconst 2, []), (88, .iadd, []), (89, .iaload, []), (90, .aload_n 0, []), (91, .getfield 29, [4, 12, 689]), (94, .iconst 5, []), (95, .iload_n 2, []), (96, .imul, []), (97, .iconst 3, []), (98, .iadd, []), (99, .iaload, []), (100, .aload_n 0, []), (101, .getfield 29, [4, 12, 689]), (104, .iconst 5, []), (105, .iload_n 2, []), (106, .imul, []), (107, .iconst 4, []), (108, .iadd, []), (109, .iaload, []), (110, .invokevirtual 82, [115, 771, 773, 24]), (113, .iinc 2 1, []), (116, .goto (-63), [34]), (119, .aload_n 0, []), (120, .getfield 71, [4, 1, 678]), (123, .ireturn, [])]
def zk_127 : List zR := [(0, .aload_n 0, []), (1, .getfield 7, [4, 0, 677]), (4, .bipush 6, []), (6, .iload_n 1, []), (7, .imul, []), (8, .iaload, []), (9, .iconst 1, []), (10, .if_icmp .eq 16, [16]), (13, .aload_n 0, []), (14, .getfield 7, [4, 0, 677]), (17, .bipush 6, []), (19, .iload_n 1, []), (20, .imul, []), (21, .iaload, []), (22, .iconst 3, []), (23, .if_icmp .ne 7, [18]), (26, .iconst 1, []), (27, .goto 4, [19]), (30, .iconst 0, []), (31, .ireturn, [])]
def zk_128 : List zR := [(0, .iload_n 1, []), (1, .istore_n 2, []), (2, .iconst 0, []), (3, .istore_n 3, []), (4, .iload_n 3, []), (5, .aload_n 0, []), (6, .getfield 94, [4, 4, 681]), (9, .if_icmp .ge 54, [40]), (12, .aload_n 0, []), (13, .getfield 32, [4, 13, 690]), (16, .iload_n 3, []), (17, .iload_n 2, []), (18, .iastore, []), (19, .aload_n 0, []), (20, .getfield 35, [4, 14, 691]), (23, .iload_n 3, []), (24, .aload_n 0, []), (25, .getfield 7, [4, 0, 677]), (28, .bipush 6, []), (30, .aload_n 0, []), (31, .getfield 13, [4, 2, 679]), (34, .iload_n 3, []), (35, .iaload, []), (36, .imul, []), (37, .iaload, []), (38, .iconst 2, []), (39, .if_icmp .ne 7, [29]), (42, .iload_n 2, []), (43, .goto 5, [31]), (46, .iload_n 2, []), (47, .ineg, []), (48, .iastore, []), (49, .aload_n 0, []), (50, .getfield 35, [4, 14, 691]), (53, .iload_n 3, []), (54, .iaload, []), (55, .ineg, []), (56, .istore_n 2, []), (57, .iinc 3 1, []), (60, .goto (-56), [4]), (63, .return_, [])]
def zk_129 : List zR := [(0, .bipush (-4), []), (2, .istore_n 1, []), (3, .iconst 0, []), (4, .istore_n 2, []), (5, .iload_n 2, []), (6, .aload_n 0, []), (7, .getfield 94, [4, 4, 681]), (10, .if_icmp .ge 46, [31]), (13, .aload_n 0, []), (14, .aload_n 0, []), (15, .getfield 13, [4, 2, 679]), (18, .iload_n 2, []), (19, .iaload, []), (20, .invokevirtual 141, [127, 880, 882, 41]), (23, .ifCond .eq 25, [27]), (26, .aload_n 0, []), (27, .getfield 32, [4, 13, 690]), (30, .iload_n 2, []), (31, .iaload, []), (32, .ifCond .lt 12, [25]), (35, .aload_n 0, []), (36, .getfield 35, [4, 14, 691]), (39, .iload_n 2, []), (40, .iaload, []), (41, .ifCond .ge 7, [27]), (44, .iload_n 2, []), (45, .goto 4, [28]), (48, .iload_n 1, []), (49, .istore_n 1, []), (50, .iinc 2 1, []), (53, .goto (-48), [4]), (56, .iload_n 1, []), (57, .ireturn, [])]
def zk_130 : List zR := [(0, .aload_n 0, []), (1, .getfield 137, [4, 6, 683]), (4, .ifCond .eq 27, [17]), (7, .aload_n 0, []), (8, .getfield 32, [4, 13, 690]), (11, .iconst 0, []), (12, .iaload, []), (13, .aload_n 0, []), (14, .getfield 35, [4, 14, 691]), (17, .aload_n 0, []), (18, .getfield 94, [4, 4, 681]), (21, .iconst 1, []), (22, .isub, []), (23, .iaload, []), (24, .if_icmp .ne 7, [17]), (27, .iconst 1, []), (28, .goto 4, [18]), (31, .iconst 0, []), (32, .ireturn, [])]
def zk_131 : List zR := [(0, .aload_n 0, []), (1, .invokevirtual 144, [130, 872, 874, 39]), (4, .ifCond .ne 10, [6]), (7, .aload_n 0, []), (8, .invokevirtual 147, [129, 876, 878, 40]), (11, .ifCond .lt 7, [8]), (14, .iconst 1, []), (15, .goto 4, [9]), (18, .iconst 0, []), (19, .ireturn, [])]
def zk_132 : List zR := [(0, .aload_n 0, []), (1, .iconst 1, []), (2, .invokevirtual 150, [128, 864, 866, 37]), (5, .aload_n 0, []), (6, .getfield 35, [4, 14, 691]), (9, .aload_n 0, []), (10, .getfield 94, [4, 4, 681]), (13, .iconst 1, []), (14, .isub, []), (15, .iaload, []), (16, .ireturn, [])]
def zk_133 : List zR := [(0, .iload_n 0, []), (1, .iload_n 1, []), (2, .iadd, []), (3, .iload_n 2, []), (4, .irem, []), (5, .istore_n 3, []), (6, .iload_n 3, []), (7, .ifCond .ge 9, [12]), (10, .iload_n 3, []), (11, .iload_n 2, []), (12, .iadd, []), (13, .goto 4, [13]), (16, .iload_n 3, []), (17, .ireturn, [])]
def zk_134 : List zR := [(0, .iconst 0, []), (1, .istore_n 2, []), (2, .iload_n 2, []), (3, .aload_n 0, []), (4, .getfield 94, [4, 4, 681]), (7, .if_icmp .ge 118, [82]), (10, .aload_n 0, []), (11, .getfield 13, [4, 2, 679]), (14, .iload_n 2, []), (15, .iaload, []), (16, .istore_n 3, []), (17, .aload_n 0, []), (18, .getfield 16, [4, 3, 680]), (21, .iload_n 2, []), (22, .iaload, []), (23, .istore 4, []), (25, .aload_n 0, []), (26, .getfield 7, [4, 0, 677]), (29, .bipush 6, []), (31, .iload_n 3, []), (32, .imul, []), (33, .iconst 3, []), (34, .iadd, []), (35, .iload 4, []), (37, .iadd, []), (38, .aload_n 0, []), (39, .getfield 7, [4, 0, 677]), (42, .bipush 6, []), (44, .iload_n 3, []), (45, .imul, []), (46, .iconst 3, []), (47, .iadd, []), (48, .iload 4, []), (50, .iadd, []), (51, .iaload, []), (52, .aload_n 0, []), (53, .getfield 32, [4, 13, 690]), (56, .iload_n 2, []), (57, .iaload, []), (58, .iload_n 1, []), (59, .imul, []), (60, .aload_n 0, []), (61, .iload_n 3, []), (62, .iload 4, []), (64, .invokevirtual 90, [114, 783, 785, 26]), (67, .invokestatic 154, [133, 888, 889]), (70, .iastore, []), (71, .aload_n 0, []), (72, .getfield 7, [4, 0, 677]), (75, .bipush 6, []), (77, .iload_n 3, []), (78, .imul, []), (79, .iconst 4, []), (80, .iadd, []), (81, .iload 4, []), (83, .isub, []), (84, .aload_n 0, []), (85, .getfield 7, [4, 0, 677]), (88, .bipush 6, []), (90, .iload_n 3, []), (91, .imul, []), (92, .iconst 4, []), (93, .iadd, []), (94, .iload 4, []), (96, .isub, []), (97, .iaload, []), (98, .aload_n 0, []), (99, .getfield 35, [4, 14, 691]), (102, .iload_n 2, []), (103, .iaload, []), (104, .iload_n 1, []), (105, .imul, []), (106, .aload_n 0, []), (107, .iload_n 3, []), (108, .iconst 1, []), (109, .iload 4, []), (111, .isub, []), (112, .invokevirtual 90, [114, 783, 785, 26]), (115, .invokestatic 154, [133, 888, 889]), (118, .iastore, []), (119, .iinc 2 1, []), (122, .goto (-120), [2]), (125, .return_, [])]
def zk_135 : List zR := [(0, .iconst 0, []), (1, .istore_n 1, []), (2, .iconst 0, []), (3, .istore_n 2, []), (4, .iload_n 2, []), (5, .aload_n 0, []), (6, .getfield 94, [4, 4, 681]), (9, .if_icmp .ge 61, [44]), (12, .iload_n 1, []), (13, .aload_n 0, []), (14, .getfield 7, [4, 0, 677]), (17, .bipush 6, []), (19, .aload_n 0, []), (20, .getfield 13, [4, 2, 679]), (23, .iload_n 2, []), (24, .iaload, []), (25, .imul, []), (26, .iconst 3, []), (27, .iadd, []), (28, .iaload, []), (29, .ifCond .ne 7, [23]), (32, .iconst 1, []), (33, .goto 4, [24]), (36, .iconst 0, []), (37, .aload_n 0, []), (38, .getfield 7, [4, 0, 677]), (41, .bipush 6, []), (43, .aload_n 0, []), (44, .getfield 13, [4, 2, 679]), (47, .iload_n 2, []), (48, .iaload, []), (49, .imul, []), (50, .iconst 4, []), (51, .iadd, []), (52, .iaload, []), (53, .ifCond .ne 7, [38]), (56, .iconst 1, []), (57, .goto 4, [39]), (60, .iconst 0, []), (61, .iadd, []), (62, .iadd, []), (63, .istore_n 1, []), (64, .iinc 2 1, []), (67, .goto (-63), [4]), (70, .iload_n 1, []), (71, .ireturn, [])]
def zk_136 : List zR := [(0, .iload_n 1, []), (1, .i2l, []), (2, .lconst 0, []), (3, .ldc2_w 97, [7, 0, 791]), (6, .invokestatic 74, [112, 767, 768]), (9, .ifCond .ne 5, [8]), (12, .iconst (-1), []), (13, .ireturn, []), (14, .iconst 0, []), (15, .istore_n 2, []), (16, .iconst 0, []), (17, .istore_n 3, []), (18, .iconst 0, []), (19, .istore 4, []), (21, .iload 4, []), (23, .aload_n 0, []), (24, .getfield 71, [4, 1, 678]), (27, .if_icmp .ge 56, [51]), (30, .iload_n 2, []), (31, .aload_n 0, []), (32, .getfield 7, [4, 0, 677]), (35, .bipush 6, []), (37, .iload 4, []), (39, .imul, []), (40, .iconst 5, []), (41, .iadd, []), (42, .iaload, []), (43, .ifCond .ne 7, [30]), (46, .iconst 1, []), (47, .goto 4, [31]), (50, .iconst 0, []), (51, .iadd, []), (52, .istore_n 2, []), (53, .iload_n 3, []), (54, .aload_n 0, []), (55, .getfield 7, [4, 0, 677]), (58, .bipush 6, []), (60, .iload 4, []), (62, .imul, []), (63, .iconst 5, []), (64, .iadd, []), (65, .iaload, []), (66, .iconst 1, []), (67, .if_icmp .ne 7, [46]), (70, .iconst 1, []), (71, .goto 4, [47]), (74, .iconst 0, []), (75, .iadd, []), (76, .istore_n 3, []), (77, .iinc 4 1, []), (80, .goto (-59), [14]), (83, .iload_n 1, []), (84, .ifCond .ne 10, [56]), (87, .aload_n 0, []), (88, .getfield 71, [4, 1, 678]), (91, .goto 75, [94]), (94, .iload_n 1, []), (95, .iconst 1, []), (96, .if_icmp .ne 10, [62]), (99, .aload_n 0, []), (100, .getfield 94, [4, 4, 681]), (103, .goto 63, [94]), (106, .iload_n 1, []), (107, .iconst 2, []), (108, .if_icmp .ne 7, [67]), (111, .iload_n 2, []), (112, .goto 54, [94]), (115, .iload_n 1, []), (116, .iconst 3, []), (117, .if_icmp .ne 7, [72]), (120, .iload_n 3, []), (121, .goto 45, [94]), (124, .iload_n 1, []), (125, .bipush 6, []), (127, .if_icmp .ge 14, [82]), (130, .aload_n 0, []), (131, .getfield 19, [4, 5, 682]), (134, .iload_n 1, []), (135, .iconst 4, []), (136, .isub, []), (137, .iaload, []), (138, .goto 28, [94]), (141, .iload_n 1, []), (142, .bipush 6, []), (144, .if_icmp .ne 10, [88]), (147, .aload_n 0, []), (148, .invokevirtual 158, [135, 833, 835, 32]), (151, .goto 15, [94]), (154, .aload_n 0, []), (155, .getfield 137, [4, 6, 683]), (158, .ifCond .eq 7, [93]), (161, .iconst 1, []), (162, .goto 4, [94]), (165, .iconst 0, []), (166, .ireturn, [])]
def zk_137 : List zR := [(0, .iload_n 0, []), (1, .iload_n 1, []), (2, .isub, []), (3, .i2l, []), (4, .ldc2_w 103, [1, 1, 800]), (7, .lconst 1, []), (8, .invokestatic 74, [112, 767, 768]), (11, .ireturn, [])]
def zk_138 : List zR := [(0, .aload_n 0, []), (1, .getfield 94, [4, 4, 681]), (4, .ifCond .eq 43, [27]), (7, .aload_n 0, []), (8, .iload_n 1, []), (9, .iload_n 2, []), (10, .invokevirtual 90, [114, 783, 785, 26]), (13, .aload_n 0, []), (14, .aload_n 0, []), (15, .getfield 13, [4, 2, 679]), (18, .aload_n 0, []), (19, .getfield 94, [4, 4, 681]), (22, .iconst 1, []), (23, .isub, []), (24, .iaload, []), (25, .iconst 1, []), (26, .aload_n 0, []), (27, .getfield 16, [4, 3, 680]), (30, .aload_n 0, []), (31, .getfield 94, [4, 4, 681]), (34, .iconst 1, []), (35, .isub, []), (36, .iaload, []), (37, .isub, []), (38, .invokevirtual 90, [114, 783, 785, 26]), (41, .invokestatic 161, [137, 845, 846]), (44, .ifCond .eq 7, [29]), (47, .iconst 1, []), (48, .goto 4, [30]), (51, .iconst 0, []), (52, .ireturn, [])]
def zk_139 : List zR := [(0, .aload_n 0, []), (1, .iload_n 1, []), (2, .invokevirtual 86, [113, 779, 781, 25]), (5, .ifCond .eq 13, [10]), (8, .iload_n 2, []), (9, .i2l, []), (10, .lconst 0, []), (11, .lconst 1, []), (12, .invokestatic 74, [112, 767, 768]), (15, .ifCond .ne 5, [12]), (18, .iconst (-1), []), (19, .ireturn, []), (20, .aload_n 0, []), (21, .iload_n 1, []), (22, .invokevirtual 99, [118, 792, 794, 27]), (25, .ifCond .ge 10, [19]), (28, .aload_n 0, []), (29, .getfield 137, [4, 6, 683]), (32, .ifCond .eq 8, [21]), (35, .bipush (-2), []), (37, .goto 17, [29]), (40, .aload_n 0, []), (41, .iload_n 1, []), (42, .iload_n 2, []), (43, .invokevirtual 165, [138, 841, 843, 33]), (46, .ifCond .eq 7, [28]), (49, .iconst 1, []), (50, .goto 4, [29]), (53, .iconst 0, []), (54, .ireturn, [])]
def zk_140 : List zR := [(0, .aload_n 0, []), (1, .getfield 94, [4, 4, 681]), (4, .ifCond .le 23, [13]), (7, .aload_n 0, []), (8, .aload_n 0, []), (9, .invokevirtual 168, [132, 860, 862, 36]), (12, .invokevirtual 150, [128, 864, 866, 37]), (15, .aload_n 0, []), (16, .invokevirtual 171, [131, 868, 870, 38]), (19, .ifCond .ne 8, [13]), (22, .aload_n 0, []), (23, .iconst 1, []), (24, .invokevirtual 174, [134, 884, 886, 42]), (27, .aload_n 0, []), (28, .getfield 13, [4, 2, 679]), (31, .aload_n 0, []), (32, .getfield 94, [4, 4, 681]), (35, .iload_n 1, []), (36, .iastore, []), (37, .aload_n 0, []), (38, .getfield 16, [4, 3, 680]), (41, .aload_n 0, []), (42, .getfield 94, [4, 4, 681]), (45, .iload_n 2, []), (46, .iastore, []), (47, .aload_n 0, []), (48, .dup, []), (49, .getfield 94, [4, 4, 681]), (52, .iconst 1, []), (53, .iadd, []), (54, .putfield 94, [4, 4, 681]), (57, .aload_n 0, []), (58, .getfield 94, [4, 4, 681]), (61, .iconst 2, []), (62, .if_icmp .lt 16, [42]), (65, .aload_n 0, []), (66, .invokevirtual 158, [135, 833, 835, 32]), (69, .iconst 2, []), (70, .aload_n 0, []), (71, .getfield 94, [4, 4, 681]), (74, .imul, []), (75, .if_icmp .ge 5, [44]), (78, .iconst 0, []), (79, .ireturn, []), (80, .aload_n 0, []), (81, .getfield 94, [4, 4, 681]), (84, .istore_n 3, []), (85, .iconst 0, []), (86, .istore 4, []), (88, .iload 4, []), (90, .aload_n 0, []), (91, .getfield 94, [4, 4, 681]), (94, .if_icmp .ge 36, [72]), (97, .iload_n 3, []), (98, .aload_n 0, []), (99, .getfield 7, [4, 0, 677]), (102, .bipush 6, []), (104, .aload_n 0, []), (105, .getfield 13, [4, 2, 679]), (108, .iload 4, []), (110, .iaload, []), (111, .imul, []), (112, .iaload, []), (113, .iconst 3, []), (114, .if_icmp .ne 7, [67]), (117, .iconst 1, []), (118, .goto 4, [68]), (121, .iconst 0, []), (122, .iadd, []), (123, .istore_n 3, []), (124, .iinc 4 1, []), (127, .goto (-39), [49]), (130, .iload_n 3, []), (131, .ireturn, [])]
def zk_141 : List zR := [(0, .aload_n 0, []), (1, .iload_n 1, []), (2, .iload_n 2, []), (3, .invokevirtual 177, [140, 856, 858, 35]), (6, .istore_n 3, []), (7, .aload_n 0, []), (8, .getfield 7, [4, 0, 677]), (11, .bipush 6, []), (13, .iload_n 1, []), (14, .imul, []), (15, .iconst 5, []), (16, .iadd, []), (17, .iaload, []), (18, .istore 4, []), (20, .aload_n 0, []), (21, .getfield 19, [4, 5, 682]), (24, .iconst 0, []), (25, .dup2, []), (26, .iaload, []), (27, .iload 4, []), (29, .ifCond .ne 7, [23]), (32, .iload_n 3, []), (33, .goto 4, [24]), (36, .iconst 0, []), (37, .iadd, []), (38, .iastore, []), (39, .aload_n 0, []), (40, .getfield 19, [4, 5, 682]), (43, .iconst 1, []), (44, .dup2, []), (45, .iaload, []), (46, .iload 4, []), (48, .iconst 1, []), (49, .if_icmp .ne 7, [36]), (52, .iload_n 3, []), (53, .goto 4, [37]), (56, .iconst 0, []), (57, .iadd, []), (58, .iastore, []), (59, .aload_n 0, []), (60, .getfield 7, [4, 0, 677]), (63, .bipush 6, []), (65, .iload_n 1, []), (66, .imul, []), (67, .iconst 5, []), (68, .iadd, []), (69, .bipush (-4), []), (71, .iastore, []), (72, .iload_n 3, []), (73, .ireturn, [])]
def zk_142 : List zR := [(0, .aload_n 0, []), (1, .iload_n 1, []), (2, .invokevirtual 86, [113, 779, 781, 25]), (5, .ifCond .eq 13, [10]), (8, .iload_n 2, []), (9, .i2l, []), (10, .lconst 0, []), (11, .lconst 1, []), (12, .invokestatic 74, [112, 767, 768]), (15, .ifCond .ne 5, [12]), (18, .iconst (-1), []), (19, .ireturn, []), (20, .aload_n 0, []), (21, .iload_n 1, []), (22, .invokevirtual 99, [118, 792, 794, 27]), (25, .ifCond .ge 10, [19]), (28, .aload_n 0, []), (29, .getfield 137, [4, 6, 683]), (32, .ifCond .eq 6, [21]), (35, .bipush (-2), []), (37, .ireturn, []), (38, .aload_n 0, []), (39, .iload_n 1, []), (40, .iload_n 2, []), (41, .invokevirtual 165, [138, 841, 843, 33]), (44, .ifCond .eq 12, [31]), (47, .aload_n 0, []), (48, .iload_n 1, []), (49, .iload_n 2, []), (50, .invokevirtual 180, [141, 852, 854, 34]), (53, .goto 5, [32]), (56, .bipush (-4), []), (58, .ireturn, [])]
def zk_143 : List zR := [(0, .iload_n 1, []), (1, .i2l, []), (2, .lconst 1, []), (3, .ldc2_w 183, [12, 0, 895]), (6, .invokestatic 74, [112, 767, 768]), (9, .ifCond .ne 5, [8]), (12, .iconst (-1), []), (13, .ireturn, []), (14, .iload_n 1, []), (15, .aload_n 0, []), (16, .getfield 94, [4, 4, 681]), (19, .if_icmp .le 6, [14]), (22, .bipush (-2), []), (24, .ireturn, []), (25, .aload_n 0, []), (26, .dup, []), (27, .getfield 94, [4, 4, 681]), (30, .iload_n 1, []), (31, .isub, []), (32, .putfield 94, [4, 4, 681]), (35, .aload_n 0, []), (36, .iconst 0, []), (37, .putfield 137, [4, 6, 683]), (40, .aload_n 0, []), (41, .getfield 94, [4, 4, 681]), (44, .ireturn, [])]
def zk_144 : List zR := [(0, .aload_n 0, []), (1, .getfield 137, [4, 6, 683]), (4, .ifCond .eq 7, [5]), (7, .iconst 1, []), (8, .goto 4, [6]), (11, .iconst 0, []), (12, .istore_n 2, []), (13, .aload_n 0, []), (14, .getfield 94, [4, 4, 681]), (17, .iconst 3, []), (18, .if_icmp .lt 57, [43]), (21, .aload_n 0, []), (22, .aload_n 0, []), (23, .getfield 13, [4, 2, 679]), (26, .iconst 0, []), (27, .iaload, []), (28, .aload_n 0, []), (29, .getfield 16, [4, 3, 680]), (32, .iconst 0, []), (33, .iaload, []), (34, .invokevirtual 90, [114, 783, 785, 26]), (37, .aload_n 0, []), (38, .aload_n 0, []), (39, .getfield 13, [4, 2, 679]), (42, .aload_n 0, []), (43, .getfield 94, [4, 4, 681]), (46, .iconst 1, []), (47, .isub, []), (48, .iaload, []), (49, .iconst 1, []), (50, .aload_n 0, []), (51, .getfield 16, [4, 3, 680]), (54, .aload_n 0, []), (55, .getfield 94, [4, 4, 681]), (58, .iconst 1, []), (59, .isub, []), (60, .iaload, []), (61, .isub, []), (62, .invokevirtual 90, [114, 783, 785, 26]), (65, .invokestatic 161, [137, 845, 846]), (68, .ifCond .eq 7, [43]), (71, .iconst 1, []), (72, .goto 4, [44]), (75, .iconst 0, []), (76, .istore_n 3, []), (77, .iload_n 1, []), (78, .ifCond .eq 10, [51]), (81, .iload_n 3, []), (82, .ifCond .ne 6, [51]), (85, .bipush (-2), []), (87, .ireturn, []), (88, .aload_n 0, []), (89, .iload_n 1, []), (90, .putfield 137, [4, 6, 683]), (93, .iload_n 2, []), (94, .ireturn, [])]
def zk_145 : List zR := [(0, .aload_n 0, []), (1, .getfield 94, [4, 4, 681]), (4, .ifCond .ne 6, [5]), (7, .bipush (-4), []), (9, .ireturn, []), (10, .aload_n 0, []), (11, .aload_n 0, []), (12, .invokevirtual 168, [132, 860, 862, 36]), (15, .invokevirtual 150, [128, 864, 866, 37]), (18, .aload_n 0, []), (19, .invokevirtual 147, [129, 876, 878, 40]), (22, .istore_n 1, []), (23, .aload_n 0, []), (24, .invokevirtual 144, [130, 872, 874, 39]), (27, .ifCond .eq 7, [17]), (30, .iconst 1, []), (31, .goto 19, [27]), (34, .iload_n 1, []), (35, .ifCond .ge 7, [21]), (38, .iconst 0, []), (39, .goto 11, [27]), (42, .iconst 2, []), (43, .aload_n 0, []), (44, .getfield 13, [4, 2, 679]), (47, .iload_n 1, []), (48, .iaload, []), (49, .iadd, []), (50, .ireturn, [])]
def zk_146 : List zR := [(0, .iload_n 1, []), (1, .i2l, []), (2, .ldc2_w 185, [99, 1, 908]), (5, .ldc2_w 187, [99, 0, 909]), (8, .invokestatic 74, [112, 767, 768]), (11, .ifCond .ne 5, [8]), (14, .iconst (-1), []), (15, .ireturn, []), (16, .aload_n 0, []), (17, .getfield 94, [4, 4, 681]), (20, .ifCond .ne 6, [13]), (23, .bipush (-4), []), (25, .ireturn, []), (26, .aload_n 0, []), (27, .iload_n 1, []), (28, .ifCond .ge 7, [18]), (31, .iconst (-1), []), (32, .goto 4, [19]), (35, .iconst 1, []), (36, .invokevirtual 150, [128, 864, 866, 37]), (39, .iload_n 1, []), (40, .ifCond .eq 13, [27]), (43, .aload_n 0, []), (44, .invokevirtual 171, [131, 868, 870, 38]), (47, .ifCond .eq 6, [27]), (50, .bipush (-2), []), (52, .ireturn, []), (53, .aload_n 0, []), (54, .iload_n 1, []), (55, .ifCond .ge 8, [33]), (58, .iload_n 1, []), (59, .ineg, []), (60, .goto 4, [34]), (63, .iload_n 1, []), (64, .invokevirtual 174, [134, 884, 886, 42]), (67, .aload_n 0, []), (68, .invokevirtual 158, [135, 833, 835, 32]), (71, .ireturn, [])]
def zk_147 : List zR := [(0, .aload_n 0, []), (1, .iconst 1, []), (2, .invokevirtual 150, [128, 864, 866, 37]), (5, .aload_n 0, []), (6, .invokevirtual 171, [131, 868, 870, 38]), (9, .ireturn, [])]
def zk_148 : List zR := [(0, .iload_n 0, []), (1, .istore_n 2, []), (2, .iload_n 1, []), (3, .istore_n 3, []), (4, .iload_n 3, []), (5, .ifCond .eq 16, [15]), (8, .iload_n 2, []), (9, .iload_n 3, []), (10, .irem, []), (11, .istore 4, []), (13, .iload_n 3, []), (14, .istore_n 2, []), (15, .iload 4, []), (17, .istore_n 3, []), (18, .goto (-14), [4]), (21, .iload_n 2, []), (22, .ireturn, [])]
def zk_149 : List zR := [(0, .iconst 1, []), (1, .istore_n 1, []), (2, .iconst 0, []), (3, .istore_n 2, []), (4, .iload_n 2, []), (5, .iconst 2, []), (6, .aload_n 0, []), (7, .getfield 94, [4, 4, 681]), (10, .imul, []), (11, .if_icmp .ge 35, [32]), (14, .aload_n 0, []), (15, .aload_n 0, []), (16, .getfield 13, [4, 2, 679]), (19, .iload_n 2, []), (20, .iconst 2, []), (21, .idiv, []), (22, .iaload, []), (23, .iload_n 2, []), (24, .iconst 2, []), (25, .irem, []), (26, .invokevirtual 90, [114, 783, 785, 26]), (29, .istore_n 3, []), (30, .iload_n 1, []), (31, .iload_n 1, []), (32, .iload_n 3, []), (33, .invokestatic 189, [148, 922, 923]), (36, .idiv, []), (37, .iload_n 3, []), (38, .imul, []), (39, .istore_n 1, []), (40, .iinc 2 1, []), (43, .goto (-39), [4]), (46, .iload_n 1, []), (47, .ireturn, [])]
def zk_150 : List zR := [(0, .aload_n 0, []), (1, .getfield 94, [4, 4, 681]), (4, .ifCond .ne 8, [5]), (7, .bipush (-4), []), (9, .goto 19, [12]), (12, .aload_n 0, []), (13, .invokevirtual 192, [147, 914, 916, 43]), (16, .ifCond .eq 8, [10]), (19, .bipush (-2), []), (21, .goto 7, [12]), (24, .aload_n 0, []), (25, .invokevirtual 195, [149, 918, 920, 44]), (28, .ireturn, [])]
def zk_151 : List zR := [(0, .iconst 0, []), (1, .iload_n 3, []), (2, .iload_n 2, []), (3, .iload_n 1, []), (4, .isub, []), (5, .imul, []), (6, .iload 4, []), (8, .invokestatic 154, [133, 888, 889]), (11, .ireturn, [])]
def zk_152 : List zR := [(0, .iconst 1, []), (1, .istore_n 2, []), (2, .iconst 0, []), (3, .istore_n 3, []), (4, .iload_n 3, []), (5, .aload_n 0, []), (6, .getfield 94, [4, 4, 681]), (9, .if_icmp .ge 133, [86]), (12, .iload_n 2, []), (13, .ifCond .eq 129, [86]), (16, .aload_n 0, []), (17, .getfield 13, [4, 2, 679]), (20, .iload_n 3, []), (21, .iaload, []), (22, .istore 4, []), (24, .aload_n 0, []), (25, .getfield 16, [4, 3, 680]), (28, .iload_n 3, []), (29, .iaload, []), (30, .istore 5, []), (32, .iload_n 1, []), (33, .aload_n 0, []), (34, .iload 4, []), (36, .iload 5, []), (38, .invokevirtual 90, [114, 783, 785, 26]), (41, .irem, []), (42, .aload_n 0, []), (43, .aload_n 0, []), (44, .getfield 7, [4, 0, 677]), (47, .bipush 6, []), (49, .iload 4, []), (51, .imul, []), (52, .iconst 3, []), (53, .iadd, []), (54, .iload 5, []), (56, .iadd, []), (57, .iaload, []), (58, .iconst 0, []), (59, .aload_n 0, []), (60, .getfield 32, [4, 13, 690]), (63, .iload_n 3, []), (64, .iaload, []), (65, .aload_n 0, []), (66, .iload 4, []), (68, .iload 5, []), (70, .invokevirtual 90, [114, 783, 785, 26]), (73, .invokevirtual 198, [151, 933, 935, 46]), (76, .if_icmp .ne 58, [82]), (79, .iload_n 1, []), (80, .aload_n 0, []), (81, .iload 4, []), (83, .iconst 1, []), (84, .iload 5, []), (86, .isub, []), (87, .invokevirtual 90, [114, 783, 785, 26]), (90, .irem, []), (91, .aload_n 0, []), (92, .aload_n 0, []), (93, .getfield 7, [4, 0, 677]), (96, .bipush 6, []), (98, .iload 4, []), (100, .imul, []), (101, .iconst 4, []), (102, .iadd, []), (103, .iload 5, []), (105, .isub, []), (106, .iaload, []), (107, .iconst 0, []), (108, .aload_n 0, []), (109, .getfield 35, [4, 14, 691]), (112, .iload_n 3, []), (113, .iaload, []), (114, .aload_n 0, []), (115, .iload 4, []), (117, .iconst 1, []), (118, .iload 5, []), (120, .isub, []), (121, .invokevirtual 90, [114, 783, 785, 26]), (124, .invokevirtual 198, [151, 933, 935, 46]), (127, .if_icmp .ne 7, [82]), (130, .iconst 1, []), (131, .goto 4, [83]), (134, .iconst 0, []), (135, .istore_n 2, []), (136, .iinc 3 1, []), (139, .goto (-135), [4]), (142, .iload_n 2, []), (143, .ireturn, [])]
def zk_153 : List zR := [(0, .aload_n 0, []), (1, .getfield 94, [4, 4, 681]), (4, .ifCond .ne 6, [5]), (7, .bipush (-4), []), (9, .ireturn, []), (10, .aload_n 0, []), (11, .invokevirtual 192, [147, 914, 916, 43]), (14, .ifCond .eq 6, [10]), (17, .bipush (-2), []), (19, .ireturn, []), (20, .aload_n 0, []), (21, .invokevirtual 195, [149, 918, 920, 44]), (24, .istore_n 1, []), (25, .iconst 0, []), (26, .istore_n 2, []), (27, .iload_n 2, []), (28, .iload_n 1, []), (29, .if_icmp .ge 19, [26]), (32, .aload_n 0, []), (33, .iload_n 2, []), (34, .invokevirtual 202, [152, 929, 931, 45]), (37, .ifCond .eq 5, [24]), (40, .iload_n 2, []), (41, .ireturn, []), (42, .iinc 2 1, []), (45, .goto (-18), [15]), (48, .bipush (-4), []), (50, .ireturn, [])]
def zk_154 : List zR := [(0, .aload_n 0, []), (1, .iload_n 1, []), (2, .invokevirtual 86, [113, 779, 781, 25]), (5, .ifCond .eq 11, [8]), (8, .aload_n 0, []), (9, .iload_n 1, []), (10, .invokevirtual 99, [118, 792, 794, 27]), (13, .goto 5, [9]), (16, .bipush (-4), []), (18, .istore_n 3, []), (19, .iload_n 3, []), (20, .ifCond .lt 28, [29]), (23, .iload_n 2, []), (24, .i2l, []), (25, .lconst 0, []), (26, .aload_n 0, []), (27, .iload_n 1, []), (28, .iconst 1, []), (29, .aload_n 0, []), (30, .getfield 16, [4, 3, 680]), (33, .iload_n 3, []), (34, .iaload, []), (35, .isub, []), (36, .invokevirtual 90, [114, 783, 785, 26]), (39, .iconst 1, []), (40, .isub, []), (41, .i2l, []), (42, .invokestatic 74, [112, 767, 768]), (45, .ifCond .ne 5, [31]), (48, .iconst (-1), []), (49, .ireturn, []), (50, .aload_n 0, []), (51, .invokevirtual 192, [147, 914, 916, 43]), (54, .ifCond .eq 6, [36]), (57, .bipush (-2), []), (59, .ireturn, []), (60, .iconst 1, []), (61, .aload_n 0, []), (62, .getfield 16, [4, 3, 680]), (65, .iload_n 3, []), (66, .iaload, []), (67, .isub, []), (68, .istore 4, []), (70, .aload_n 0, []), (71, .aload_n 0, []), (72, .getfield 7, [4, 0, 677]), (75, .bipush 6, []), (77, .iload_n 1, []), (78, .imul, []), (79, .iconst 3, []), (80, .iadd, []), (81, .iload 4, []), (83, .iadd, []), (84, .iaload, []), (85, .iload_n 2, []), (86, .aload_n 0, []), (87, .getfield 35, [4, 14, 691]), (90, .iload_n 3, []), (91, .iaload, []), (92, .aload_n 0, []), (93, .iload_n 1, []), (94, .iload 4, []), (96, .invokevirtual 90, [114, 783, 785, 26]), (99, .invokevirtual 198, [151, 933, 935, 46]), (102, .ireturn, [])]
def zk_155 : List zR := [(0, .iconst 0, []), (1, .istore_n 2, []), (2, .iload_n 2, []), (3, .bipush 72, []), (5, .if_icmp .ge 18, [14]), (8, .aload_n 1, []), (9, .iload_n 2, []), (10, .aload_n 0, []), (11, .getfield 7, [4, 0, 677]), (14, .iload_n 2, []), (15, .iaload, []), (16, .iastore, []), (17, .iinc 2 1, []), (20, .goto (-18), [2]), (23, .return_, [])]
def zk_156 : List zR := [(0, .iconst 0, []), (1, .istore_n 3, []), (2, .iload_n 3, []), (3, .bipush 72, []), (5, .if_icmp .ge 18, [14]), (8, .aload_n 0, []), (9, .getfield 7, [4, 0, 677]), (12, .iload_n 3, []), (13, .aload_n 1, []), (14, .iload_n 3, []), (15, .iaload, []), (16, .iastore, []), (17, .iinc 3 1, []), (20, .goto (-18), [2]), (23, .aload_n 0, []), (24, .iload_n 2, []), (25, .putfield 94, [4, 4, 681]), (28, .return_, [])]
def zk_157 : List zR := [(0, .iconst 0, []), (1, .istore_n 2, []), (2, .aload_n 0, []), (3, .getfield 94, [4, 4, 681]), (6, .istore_n 3, []), (7, .aload_n 0, []), (8, .aload_n 0, []), (9, .getfield 41, [4, 16, 693]), (12, .invokevirtual 205, [155, 946, 948, 47]), (15, .iconst 0, []), (16, .istore 4, []), (18, .iload 4, []), (20, .iconst 2, []), (21, .aload_n 0, []), (22, .getfield 71, [4, 1, 678]), (25, .imul, []), (26, .if_icmp .ge 89, [67]), (29, .aload_n 0, []), (30, .getfield 7, [4, 0, 677]), (33, .bipush 6, []), (35, .iload 4, []), (37, .iconst 2, []), (38, .idiv, []), (39, .imul, []), (40, .iconst 5, []), (41, .iadd, []), (42, .iaload, []), (43, .iload_n 1, []), (44, .if_icmp .ne 65, [65]), (47, .aload_n 0, []), (48, .iload 4, []), (50, .iconst 2, []), (51, .idiv, []), (52, .invokevirtual 99, [118, 792, 794, 27]), (55, .ifCond .ge 54, [65]), (58, .aload_n 0, []), (59, .iload 4, []), (61, .iconst 2, []), (62, .idiv, []), (63, .iload 4, []), (65, .iconst 2, []), (66, .irem, []), (67, .invokevirtual 165, [138, 841, 843, 33]), (70, .ifCond .eq 39, [65]), (73, .aload_n 0, []), (74, .iload 4, []), (76, .iconst 2, []), (77, .idiv, []), (78, .iload 4, []), (80, .iconst 2, []), (81, .irem, []), (82, .invokevirtual 177, [140, 856, 858, 35]), (85, .istore 5, []), (87, .iload 5, []), (89, .iload_n 2, []), (90, .if_icmp .le 8, [58]), (93, .iload 5, []), (95, .goto 4, [59]), (98, .iload_n 2, []), (99, .istore_n 2, []), (100, .aload_n 0, []), (101, .aload_n 0, []), (102, .getfield 41, [4, 16, 693]), (105, .iload_n 3, []), (106, .invokevirtual 209, [156, 954, 956, 49]), (109, .iinc 4 1, []), (112, .goto (-94), [11]), (115, .iload_n 2, []), (116, .ireturn, [])]
def zk_158 : List zR := [(0, .iload_n 1, []), (1, .i2l, []), (2, .lconst 0, []), (3, .lconst 1, []), (4, .invokestatic 74, [112, 767, 768]), (7, .ifCond .eq 15, [12]), (10, .iload_n 2, []), (11, .i2l, []), (12, .lconst 0, []), (13, .ldc2_w 213, [2, 0, 945]), (16, .invokestatic 74, [112, 767, 768]), (19, .ifCond .ne 5, [14]), (22, .iconst (-1), []), (23, .ireturn, []), (24, .aload_n 0, []), (25, .getfield 137, [4, 6, 683]), (28, .ifCond .eq 6, [19]), (31, .bipush (-2), []), (33, .ireturn, []), (34, .bipush (-4), []), (36, .istore_n 3, []), (37, .sipush (-999), []), (40, .istore 4, []), (42, .aload_n 0, []), (43, .getfield 94, [4, 4, 681]), (46, .istore 5, []), (48, .aload_n 0, []), (49, .aload_n 0, []), (50, .getfield 38, [4, 15, 692]), (53, .invokevirtual 205, [155, 946, 948, 47]), (56, .iconst 0, []), (57, .istore 6, []), (59, .iload 6, []), (61, .iconst 2, []), (62, .aload_n 0, []), (63, .getfield 71, [4, 1, 678]), (66, .imul, []), (67, .if_icmp .ge 104, [95]), (70, .aload_n 0, []), (71, .getfield 7, [4, 0, 677]), (74, .bipush 6, []), (76, .iload 6, []), (78, .iconst 2, []), (79, .idiv, []), (80, .imul, []), (81, .iconst 5, []), (82, .iadd, []), (83, .iaload, []), (84, .iload_n 1, []), (85, .if_icmp .ne 80, [93]), (88, .aload_n 0, []), (89, .iload 6, []), (91, .iconst 2, []), (92, .idiv, []), (93, .iload 6, []), (95, .iconst 2, []), (96, .irem, []), (97, .invokevirtual 165, [138, 841, 843, 33]), (100, .ifCond .eq 65, [93]), (103, .aload_n 0, []), (104, .iload 6, []), (106, .iconst 2, []), (107, .idiv, []), (108, .iload 6, []), (110, .iconst 2, []), (111, .irem, []), (112, .invokevirtual 177, [140, 856, 858, 35]), (115, .aload_n 0, []), (116, .iconst 1, []), (117, .iload_n 1, []), (118, .isub, []), (119, .invokevirtual 215, [157, 950, 952, 48]), (122, .isub, []), (123, .istore 7, []), (125, .iload 7, []), (127, .iload 4, []), (129, .if_icmp .le 8, [79]), (132, .iload 6, []), (134, .goto 4, [80]), (137, .iload_n 3, []), (138, .istore_n 3, []), (139, .iload 7, []), (141, .iload 4, []), (143, .if_icmp .le 8, [86]), (146, .iload 7, []), (148, .goto 5, [87]), (151, .iload 4, []), (153, .istore 4, []), (155, .aload_n 0, []), (156, .aload_n 0, []), (157, .getfield 38, [4, 15, 692]), (160, .iload 5, []), (162, .invokevirtual 209, [156, 954, 956, 49]), (165, .iinc 6 1, []), (168, .goto (-109), [32]), (171, .iload_n 3, []), (172, .ifCond .ge 8, [99]), (175, .bipush (-4), []), (177, .goto 29, [115]), (180, .iload_n 2, []), (181, .ifCond .ne 9, [105]), (184, .iload_n 3, []), (185, .iconst 2, []), (186, .idiv, []), (187, .goto 19, [115]), (190, .iload_n 2, []), (191, .iconst 1, []), (192, .if_icmp .ne 9, [112]), (195, .iload_n 3, []), (196, .iconst 2, []), (197, .irem, []), (198, .goto 8, [115]), (201, .iload 4, []), (203, .bipush 100, []), (205, .iadd, []), (206, .ireturn, [])]
def zk_159 : List zR := [(0, .iconst 0, []), (1, .istore_n 3, []), (2, .iconst 0, []), (3, .istore 4, []), (5, .iload 4, []), (7, .iconst 2, []), (8, .aload_n 0, []), (9, .getfield 71, [4, 1, 678]), (12, .imul, []), (13, .if_icmp .ge 53, [39]), (16, .aload_n 0, []), (17, .getfield 7, [4, 0, 677]), (20, .bipush 6, []), (22, .iload 4, []), (24, .iconst 2, []), (25, .idiv, []), (26, .imul, []), (27, .iconst 5, []), (28, .iadd, []), (29, .iaload, []), (30, .iload_n 1, []), (31, .if_icmp .ne 29, [37]), (34, .aload_n 0, []), (35, .iload 4, []), (37, .iconst 2, []), (38, .idiv, []), (39, .iload 4, []), (41, .iconst 2, []), (42, .irem, []), (43, .invokevirtual 165, [138, 841, 843, 33]), (46, .ifCond .eq 14, [37]), (49, .iload_n 3, []), (50, .iload_n 2, []), (51, .if_icmp .ne 6, [36]), (54, .iload 4, []), (56, .ireturn, []), (57, .iinc 3 1, []), (60, .iinc 4 1, []), (63, .goto (-58), [4]), (66, .iload_n 2, []), (67, .ifCond .ge 7, [43]), (70, .iload_n 3, []), (71, .goto 5, [44]), (74, .bipush (-4), []), (76, .ireturn, [])]
def zk_160 : List zR := [(0, .iload_n 1, []), (1, .i2l, []), (2, .lconst 1, []), (3, .ldc2_w 218, [24, 0, 962]), (6, .invokestatic 74, [112, 767, 768]), (9, .ifCond .ne 5, [8]), (12, .iconst (-1), []), (13, .ireturn, []), (14, .aload_n 0, []), (15, .getfield 137, [4, 6, 683]), (18, .ifCond .eq 6, [13]), (21, .bipush (-2), []), (23, .ireturn, []), (24, .iconst 0, []), (25, .istore_n 2, []), (26, .iconst 0, []), (27, .istore_n 3, []), (28, .iload_n 3, []), (29, .iload_n 1, []), (30, .if_icmp .ge 81, [65]), (33, .aload_n 0, []), (34, .iload_n 3, []), (35, .iconst 2, []), (36, .irem, []), (37, .iconst (-1), []), (38, .invokevirtual 220, [159, 963, 965, 50]), (41, .istore 4, []), (43, .iload 4, []), (45, .ifCond .le 60, [63]), (48, .aload_n 0, []), (49, .aload_n 0, []), (50, .getfield 22, [4, 7, 684]), (53, .i2l, []), (54, .ldc2_w 223, [1103515245, 0, 967]), (57, .lmul, []), (58, .ldc2_w 225, [12345, 0, 968]), (61, .ladd, []), (62, .ldc2_w 227, [2147483647, 0, 969]), (65, .land, []), (66, .l2i, []), (67, .putfield 22, [4, 7, 684]), (70, .aload_n 0, []), (71, .iload_n 3, []), (72, .iconst 2, []), (73, .irem, []), (74, .aload_n 0, []), (75, .getfield 22, [4, 7, 684]), (78, .ldc 229, [65536, 0, 970]), (80, .idiv, []), (81, .iload 4, []), (83, .irem, []), (84, .invokevirtual 220, [159, 963, 965, 50]), (87, .istore 5, []), (89, .aload_n 0, []), (90, .iload 5, []), (92, .iconst 2, []), (93, .idiv, []), (94, .iload 5, []), (96, .iconst 2, []), (97, .irem, []), (98, .invokevirtual 180, [141, 852, 854, 34]), (101, .pop, []), (102, .iinc 2 1, []), (105, .iinc 3 1, []), (108, .goto (-80), [17]), (111, .iload_n 2, []), (112, .ireturn, [])]
def zk_161 : List zR := [(0, .iload_n 1, []), (1, .ifCond .ge 5, [4]), (4, .iconst (-1), []), (5, .ireturn, []), (6, .aload_n 0, []), (7, .getfield 22, [4, 7, 684]), (10, .istore_n 2, []), (11, .aload_n 0, []), (12, .iload_n 1, []), (13, .putfield 22, [4, 7, 684]), (16, .iload_n 2, []), (17, .ireturn, [])]
def zk_162 : List zR := [(0, .aload_n 0, []), (1, .aload_n 0, []), (2, .getfield 44, [4, 18, 695]), (5, .invokevirtual 205, [155, 946, 948, 47]), (8, .iconst 0, []), (9, .istore_n 1, []), (10, .iload_n 1, []), (11, .bipush 12, []), (13, .if_icmp .ge 36, [29]), (16, .aload_n 0, []), (17, .getfield 47, [4, 19, 696]), (20, .iload_n 1, []), (21, .aload_n 0, []), (22, .getfield 13, [4, 2, 679]), (25, .iload_n 1, []), (26, .iaload, []), (27, .iastore, []), (28, .aload_n 0, []), (29, .getfield 47, [4, 19, 696]), (32, .bipush 12, []), (34, .iload_n 1, []), (35, .iadd, []), (36, .aload_n 0, []), (37, .getfield 16, [4, 3, 680]), (40, .iload_n 1, []), (41, .iaload, []), (42, .iastore, []), (43, .iinc 1 1, []), (46, .goto (-36), [6]), (49, .aload_n 0, []), (50, .getfield 50, [4, 20, 697]), (53, .iconst 0, []), (54, .aload_n 0, []), (55, .getfield 71, [4, 1, 678]), (58, .iastore, []), (59, .aload_n 0, []), (60, .getfield 50, [4, 20, 697]), (63, .iconst 1, []), (64, .aload_n 0, []), (65, .getfield 94, [4, 4, 681]), (68, .iastore, []), (69, .aload_n 0, []), (70, .getfield 50, [4, 20, 697]), (73, .iconst 2, []), (74, .aload_n 0, []), (75, .getfield 19, [4, 5, 682]), (78, .iconst 0, []), (79, .iaload, []), (80, .iastore, []), (81, .aload_n 0, []), (82, .getfield 50, [4, 20, 697]), (85, .iconst 3, []), (86, .aload_n 0, []), (87, .getfield 19, [4, 5, 682]), (90, .iconst 1, []), (91, .iaload, []), (92, .iastore, []), (93, .aload_n 0, []), (94, .getfield 50, [4, 20, 697]), (97, .iconst 4, []), (98, .aload_n 0, []), (99, .getfield 137, [4, 6, 683]), (102, .ifCond .eq 7, [65]), (105, .iconst 1, []), (106, .goto 4, [66]), (109, .iconst 0, []), (110, .iastore, []), (111, .aload_n 0, []), (112, .getfield 50, [4, 20, 697]), (115, .iconst 5, []), (116, .aload_n 0, []), (117, .getfield 22, [4, 7, 684]), (120, .iastore, []), (121, .aload_n 0, []), (122, .iconst 1, []), (123, .putfield 230, [4, 17, 694]), (126, .iconst 1, []), (127, .ireturn, [])]
def zk_163 : List zR := [(0, .aload_n 0, []), (1, .getfield 230, [4, 17, 694]), (4, .ifCond .ne 6, [5]), (7, .bipush (-4), []), (9, .ireturn, []), (10, .aload_n 0, []), (11, .aload_n 0, []), (12, .getfield 44, [4, 18, 695]), (15, .aload_n 0, []), (16, .getfield 50, [4, 20, 697]), (19, .iconst 1, []), (20, .iaload, []), (21, .invokevirtual 209, [156, 954, 956, 49]), (24, .iconst 0, []), (25, .istore_n 1, []), (26, .iload_n 1, []), (27, .bipush 12, []), (29, .if_icmp .ge 36, [38]), (32, .aload_n 0, []), (33, .getfield 13, [4, 2, 679]), (36, .iload_n 1, []), (37, .aload_n 0, []), (38, .getfield 47, [4, 19, 696]), (41, .iload_n 1, []), (42, .iaload, []), (43, .iastore, []), (44, .aload_n 0, []), (45, .getfield 16, [4, 3, 680]), (48, .iload_n 1, []), (49, .aload_n 0, []), (50, .getfield 47, [4, 19, 696]), (53, .bipush 12, []), (55, .iload_n 1, []), (56, .iadd, []), (57, .iaload, []), (58, .iastore, []), (59, .iinc 1 1, []), (62, .goto (-36), [15]), (65, .aload_n 0, []), (66, .aload_n 0, []), (67, .getfield 50, [4, 20, 697]), (70, .iconst 0, []), (71, .iaload, []), (72, .putfield 71, [4, 1, 678]), (75, .aload_n 0, []), (76, .getfield 19, [4, 5, 682]), (79, .iconst 0, []), (80, .aload_n 0, []), (81, .getfield 50, [4, 20, 697]), (84, .iconst 2, []), (85, .iaload, []), (86, .iastore, []), (87, .aload_n 0, []), (88, .getfield 19, [4, 5, 682]), (91, .iconst 1, []), (92, .aload_n 0, []), (93, .getfield 50, [4, 20, 697]), (96, .iconst 3, []), (97, .iaload, []), (98, .iastore, []), (99, .aload_n 0, []), (100, .aload_n 0, []), (101, .getfield 50, [4, 20, 697]), (104, .iconst 4, []), (105, .iaload, []), (106, .iconst 1, []), (107, .if_icmp .ne 7, [69]), (110, .iconst 1, []), (111, .goto 4, [70]), (114, .iconst 0, []), (115, .putfield 137, [4, 6, 683]), (118, .aload_n 0, []), (119, .aload_n 0, []), (120, .getfield 50, [4, 20, 697]), (123, .iconst 5, []), (124, .iaload, []), (125, .putfield 22, [4, 7, 684]), (128, .iconst 1, []), (129, .ireturn, [])]
def zk_164 : List zR := [(0, .iload_n 0, []), (1, .i2l, []), (2, .lconst 0, []), (3, .ldc2_w 78, [3, 0, 766]), (6, .invokestatic 74, [112, 767, 768]), (9, .ifCond .eq 19, [14]), (12, .iload_n 1, []), (13, .i2l, []), (14, .lconst 0, []), (15, .ldc2_w 213, [2, 0, 945]), (18, .invokestatic 74, [112, 767, 768]), (21, .ifCond .eq 7, [14]), (24, .iconst 1, []), (25, .goto 4, [15]), (28, .iconst 0, []), (29, .ireturn, [])]
def zk_165 : List zR := [(0, .iload_n 1, []), (1, .iload_n 2, []), (2, .invokestatic 233, [164, 987, 988]), (5, .ifCond .eq 9, [7]), (8, .iload_n 3, []), (9, .bipush 24, []), (11, .if_icmp .le 5, [9]), (14, .iconst (-1), []), (15, .ireturn, []), (16, .iload_n 3, []), (17, .ifCond .ge 6, [13]), (20, .bipush (-14), []), (22, .ireturn, []), (23, .aload_n 0, []), (24, .getfield 53, [4, 21, 698]), (27, .iload_n 1, []), (28, .iload_n 2, []), (29, .iastore, []), (30, .aload_n 0, []), (31, .getfield 56, [4, 22, 699]), (34, .iload_n 1, []), (35, .iload_n 3, []), (36, .iastore, []), (37, .iconst 0, []), (38, .istore 4, []), (40, .iload 4, []), (42, .bipush 24, []), (44, .if_icmp .ge 22, [39]), (47, .aload_n 0, []), (48, .getfield 59, [4, 23, 700]), (51, .bipush 24, []), (53, .iload_n 1, []), (54, .imul, []), (55, .iload 4, []), (57, .iadd, []), (58, .iconst 0, []), (59, .iastore, []), (60, .iinc 4 1, []), (63, .goto (-23), [25]), (66, .iload_n 3, []), (67, .ireturn, [])]
def zk_166 : List zR := [(0, .iload_n 1, []), (1, .i2l, []), (2, .lconst 0, []), (3, .ldc2_w 78, [3, 0, 766]), (6, .invokestatic 74, [112, 767, 768]), (9, .ifCond .ne 5, [8]), (12, .iconst (-1), []), (13, .ireturn, []), (14, .aload_n 0, []), (15, .getfield 53, [4, 21, 698]), (18, .iload_n 1, []), (19, .iaload, []), (20, .ifCond .ge 6, [15]), (23, .bipush (-11), []), (25, .ireturn, []), (26, .aload_n 0, []), (27, .getfield 53, [4, 21, 698]), (30, .iload_n 1, []), (31, .iconst (-1), []), (32, .iastore, []), (33, .aload_n 0, []), (34, .getfield 56, [4, 22, 699]), (37, .iload_n 1, []), (38, .iaload, []), (39, .ireturn, [])]
def zk_167 : List zR := [(0, .aload_n 0, []), (1, .getfield 53, [4, 21, 698]), (4, .iload_n 1, []), (5, .iaload, []), (6, .iload_n 2, []), (7, .if_icmp .eq 20, [15]), (10, .aload_n 0, []), (11, .getfield 53, [4, 21, 698]), (14, .iload_n 1, []), (15, .iaload, []), (16, .ifCond .ge 8, [13]), (19, .bipush (-11), []), (21, .goto 5, [14]), (24, .bipush (-12), []), (26, .ireturn, []), (27, .iload_n 3, []), (28, .i2l, []), (29, .lconst 0, []), (30, .aload_n 0, []), (31, .getfield 56, [4, 22, 699]), (34, .iload_n 1, []), (35, .iaload, []), (36, .iload 4, []), (38, .isub, []), (39, .i2l, []), (40, .invokestatic 74, [112, 767, 768]), (43, .ifCond .eq 7, [29]), (46, .iconst 0, []), (47, .goto 5, [30]), (50, .bipush (-13), []), (52, .ireturn, [])]
def zk_168 : List zR := [(0, .iload_n 1, []), (1, .iload_n 2, []), (2, .invokestatic 233, [164, 987, 988]), (5, .ifCond .ne 5, [6]), (8, .iconst (-1), []), (9, .ireturn, []), (10, .aload_n 0, []), (11, .iload_n 1, []), (12, .iload_n 2, []), (13, .iload_n 3, []), (14, .iconst 1, []), (15, .invokevirtual 236, [167, 998, 1000, 51]), (18, .istore 5, []), (20, .iload 5, []), (22, .ifCond .ge 6, [17]), (25, .iload 5, []), (27, .ireturn, []), (28, .aload_n 0, []), (29, .getfield 59, [4, 23, 700]), (32, .bipush 24, []), (34, .iload_n 1, []), (35, .imul, []), (36, .iload_n 3, []), (37, .iadd, []), (38, .iload_n 2, []), (39, .ifCond .ne 14, [32]), (42, .iload 4, []), (44, .bipush 24, []), (46, .ishl, []), (47, .bipush 24, []), (49, .ishr, []), (50, .goto 21, [42]), (53, .iload_n 2, []), (54, .iconst 1, []), (55, .if_icmp .ne 14, [41]), (58, .iload 4, []), (60, .bipush 16, []), (62, .ishl, []), (63, .bipush 16, []), (65, .ishr, []), (66, .goto 5, [42]), (69, .iload 4, []), (71, .iastore, []), (72, .iconst 1, []), (73, .ireturn, [])]
def zk_169 : List zR := [(0, .iload_n 1, []), (1, .iload_n 2, []), (2, .invokestatic 233, [164, 987, 988]), (5, .ifCond .eq 16, [10]), (8, .iload 4, []), (10, .i2l, []), (11, .lconst 1, []), (12, .ldc2_w 183, [12, 0, 895]), (15, .invokestatic 74, [112, 767, 768]), (18, .ifCond .ne 5, [12]), (21, .iconst (-1), []), (22, .ireturn, []), (23, .aload_n 0, []), (24, .iload_n 1, []), (25, .iload_n 2, []), (26, .iload_n 3, []), (27, .iconst 2, []), (28, .iload 4, []), (30, .imul, []), (31, .invokevirtual 236, [167, 998, 1000, 51]), (34, .istore 5, []), (36, .iload 5, []), (38, .ifCond .ge 6, [25]), (41, .iload 5, []), (43, .ireturn, []), (44, .bipush 24, []), (46, .iload_n 1, []), (47, .imul, []), (48, .iload_n 3, []), (49, .iadd, []), (50, .istore 6, []), (52, .iconst 0, []), (53, .istore 7, []), (55, .iload 7, []), (57, .iload 4, []), (59, .if_icmp .ge 54, [66]), (62, .aload_n 0, []), (63, .aload_n 0, []), (64, .getfield 59, [4, 23, 700]), (67, .iload 6, []), (69, .iconst 2, []), (70, .iload 7, []), (72, .imul, []), (73, .iadd, []), (74, .iaload, []), (75, .invokevirtual 86, [113, 779, 781, 25]), (78, .ifCond .eq 26, [62]), (81, .aload_n 0, []), (82, .getfield 59, [4, 23, 700]), (85, .iload 6, []), (87, .iconst 2, []), (88, .iload 7, []), (90, .imul, []), (91, .iadd, []), (92, .iconst 1, []), (93, .iadd, []), (94, .iaload, []), (95, .i2l, []), (96, .lconst 0, []), (97, .lconst 1, []), (98, .invokestatic 74, [112, 767, 768]), (101, .ifCond .ne 6, [64]), (104, .bipush (-2), []), (106, .ireturn, []), (107, .iinc 7 1, []), (110, .goto (-55), [33]), (113, .iconst 0, []), (114, .istore 7, []), (116, .iconst 0, []), (117, .istore 8, []), (119, .iconst 0, []), (120, .istore 9, []), (122, .iload 9, []), (124, .iload 4, []), (126, .if_icmp .ge 95, [128]), (129, .aload_n 0, []), (130, .getfield 59, [4, 23, 700]), (133, .iload 6, []), (135, .iconst 2, []), (136, .iload 9, []), (138, .imul, []), (139, .iadd, []), (140, .iaload, []), (141, .istore 10, []), (143, .aload_n 0, []), (144, .getfield 59, [4, 23, 700]), (147, .iload 6, []), (149, .iconst 2, []), (150, .iload 9, []), (152, .imul, []), (153, .iadd, []), (154, .iconst 1, []), (155, .iadd, []), (156, .iaload, []), (157, .istore 11, []), (159, .iload 7, []), (161, .iload 10, []), (163, .ishr, []), (164, .iconst 1, []), (165, .iand, []), (166, .iconst 1, []), (167, .if_icmp .eq 24, [111]), (170, .iload 9, []), (172, .ifCond .le 22, [113]), (175, .aload_n 0, []), (176, .iload 10, []), (178, .iload 11, []), (180, .invokevirtual 90, [114, 783, 785, 26]), (183, .iload 8, []), (185, .invokestatic 161, [137, 845, 846]), (188, .ifCond .ne 6, [113]), (191, .iload 9, []), (193, .ireturn, []), (194, .iload 7, []), (196, .iconst 1, []), (197, .iload 10, []), (199, .ishl, []), (200, .ior, []), (201, .istore 7, []), (203, .aload_n 0, []), (204, .iload 10, []), (206, .iconst 1, []), (207, .iload 11, []), (209, .isub, []), (210, .invokevirtual 90, [114, 783, 785, 26]), (213, .istore 8, []), (215, .iinc 9 1, []), (218, .goto (-96), [72]), (221, .bipush (-4), []), (223, .ireturn, [])]
def zk_170 : List zR := [(0, .aload_n 0, []), (1, .getfield 239, [4, 27, 704]), (4, .iconst 2, []), (5, .isub, []), (6, .istore_n 1, []), (7, .iload_n 1, []), (8, .ifCond .lt 26, [20]), (11, .aload_n 0, []), (12, .getfield 62, [4, 24, 701]), (15, .iload_n 1, []), (16, .iaload, []), (17, .aload_n 0, []), (18, .getfield 62, [4, 24, 701]), (21, .iload_n 1, []), (22, .iconst 1, []), (23, .iadd, []), (24, .iaload, []), (25, .if_icmp .le 9, [20]), (28, .iinc 1 (-1), []), (31, .goto (-24), [5]), (34, .iload_n 1, []), (35, .ifCond .ge 5, [24]), (38, .iconst 0, []), (39, .ireturn, []), (40, .aload_n 0, []), (41, .getfield 239, [4, 27, 704]), (44, .iconst 1, []), (45, .isub, []), (46, .istore_n 2, []), (47, .aload_n 0, []), (48, .getfield 62, [4, 24, 701]), (51, .iload_n 2, []), (52, .iaload, []), (53, .aload_n 0, []), (54, .getfield 62, [4, 24, 701]), (57, .iload_n 1, []), (58, .iaload, []), (59, .if_icmp .ge 9, [40]), (62, .iinc 2 (-1), []), (65, .goto (-18), [29]), (68, .aload_n 0, []), (69, .getfield 62, [4, 24, 701]), (72, .iload_n 1, []), (73, .iaload, []), (74, .istore_n 3, []), (75, .aload_n 0, []), (76, .getfield 62, [4, 24, 701]), (79, .iload_n 1, []), (80, .aload_n 0, []), (81, .getfield 62, [4, 24, 701]), (84, .iload_n 2, []), (85, .iaload, []), (86, .iastore, []), (87, .aload_n 0, []), (88, .getfield 62, [4, 24, 701]), (91, .iload_n 2, []), (92, .iload_n 3, []), (93, .iastore, []), (94, .aload_n 0, []), (95, .getfield 239, [4, 27, 704]), (98, .iconst 1, []), (99, .isub, []), (100, .istore 4, []), (102, .iload_n 1, []), (103, .iconst 1, []), (104, .iadd, []), (105, .istore 5, []), (107, .iload 5, []), (109, .iload 4, []), (111, .if_icmp .ge 42, [91]), (114, .aload_n 0, []), (115, .getfield 62, [4, 24, 701]), (118, .iload 5, []), (120, .iaload, []), (121, .istore_n 3, []), (122, .aload_n 0, []), (123, .getfield 62, [4, 24, 701]), (126, .iload 5, []), (128, .aload_n 0, []), (129, .getfield 62, [4, 24, 701]), (132, .iload 4, []), (134, .iaload, []), (135, .iastore, []), (136, .aload_n 0, []), (137, .getfield 62, [4, 24, 701]), (140, .iload 4, []), (142, .iload_n 3, []), (143, .iastore, []), (144, .iinc 4 (-1), []), (147, .iinc 5 1, []), (150, .goto (-43), [67]), (153, .iconst 1, []), (154, .ireturn, [])]
def zk_171 : List zR := [(0, .aload_n 0, []), (1, .iconst 0, []), (2, .putfield 94, [4, 4, 681]), (5, .iconst 1, []), (6, .istore_n 3, []), (7, .iconst 0, []), (8, .istore 4, []), (10, .iload 4, []), (12, .aload_n 0, []), (13, .getfield 239, [4, 27, 704]), (16, .if_icmp .ge 43, [33]), (19, .iload_n 3, []), (20, .ifCond .eq 39, [33]), (23, .aload_n 0, []), (24, .aload_n 0, []), (25, .getfield 62, [4, 24, 701]), (28, .iload 4, []), (30, .iaload, []), (31, .iconst 0, []), (32, .invokevirtual 165, [138, 841, 843, 33]), (35, .istore_n 3, []), (36, .iload_n 3, []), (37, .ifCond .eq 16, [31]), (40, .aload_n 0, []), (41, .aload_n 0, []), (42, .getfield 62, [4, 24, 701]), (45, .iload 4, []), (47, .iaload, []), (48, .iconst 0, []), (49, .invokevirtual 177, [140, 856, 858, 35]), (52, .pop, []), (53, .iinc 4 1, []), (56, .goto (-46), [7]), (59, .iconst 0, []), (60, .istore 4, []), (62, .iconst 0, []), (63, .istore 5, []), (65, .iload 5, []), (67, .aload_n 0, []), (68, .getfield 71, [4, 1, 678]), (71, .if_icmp .ge 86, [93]), (74, .iload_n 3, []), (75, .ifCond .eq 82, [93]), (78, .iload_n 1, []), (79, .iload 5, []), (81, .ishr, []), (82, .iconst 1, []), (83, .iand, []), (84, .iconst 1, []), (85, .if_icmp .ne 66, [91]), (88, .aload_n 0, []), (89, .getfield 7, [4, 0, 677]), (92, .bipush 6, []), (94, .iload 5, []), (96, .imul, []), (97, .iconst 3, []), (98, .iadd, []), (99, .iaload, []), (100, .aload_n 0, []), (101, .getfield 59, [4, 23, 700]), (104, .iload_n 2, []), (105, .iconst 2, []), (106, .iload 4, []), (108, .imul, []), (109, .iadd, []), (110, .iaload, []), (111, .if_icmp .ne 35, [88]), (114, .aload_n 0, []), (115, .getfield 7, [4, 0, 677]), (118, .bipush 6, []), (120, .iload 5, []), (122, .imul, []), (123, .iconst 4, []), (124, .iadd, []), (125, .iaload, []), (126, .aload_n 0, []), (127, .getfield 59, [4, 23, 700]), (130, .iload_n 2, []), (131, .iconst 2, []), (132, .iload 4, []), (134, .imul, []), (135, .iadd, []), (136, .iconst 1, []), (137, .iadd, []), (138, .iaload, []), (139, .if_icmp .ne 7, [88]), (142, .iconst 1, []), (143, .goto 4, [89]), (146, .iconst 0, []), (147, .istore_n 3, []), (148, .iinc 4 1, []), (151, .iinc 5 1, []), (154, .goto (-89), [37]), (157, .aload_n 0, []), (158, .aload_n 0, []), (159, .getfield 38, [4, 15, 692]), (162, .aload_n 0, []), (163, .getfield 94, [4, 4, 681]), (166, .invokevirtual 209, [156, 954, 956, 49]), (169, .iload_n 3, []), (170, .ireturn, [])]
def zk_172 : List zR := [(0, .aload_n 0, []), (1, .getfield 94, [4, 4, 681]), (4, .istore_n 3, []), (5, .aload_n 0, []), (6, .getfield 137, [4, 6, 683]), (9, .istore 4, []), (11, .iconst 0, []), (12, .istore 5, []), (14, .iload 5, []), (16, .bipush 12, []), (18, .if_icmp .ge 40, [31]), (21, .aload_n 0, []), (22, .getfield 68, [4, 26, 703]), (25, .iload 5, []), (27, .aload_n 0, []), (28, .getfield 13, [4, 2, 679]), (31, .iload 5, []), (33, .iaload, []), (34, .iastore, []), (35, .aload_n 0, []), (36, .getfield 68, [4, 26, 703]), (39, .bipush 12, []), (41, .iload 5, []), (43, .iadd, []), (44, .aload_n 0, []), (45, .getfield 16, [4, 3, 680]), (48, .iload 5, []), (50, .iaload, []), (51, .iastore, []), (52, .iinc 5 1, []), (55, .goto (-41), [8]), (58, .aload_n 0, []), (59, .aload_n 0, []), (60, .getfield 38, [4, 15, 692]), (63, .invokevirtual 205, [155, 946, 948, 47]), (66, .aload_n 0, []), (67, .iconst 0, []), (68, .putfield 137, [4, 6, 683]), (71, .iconst 0, []), (72, .istore 5, []), (74, .iconst 1, []), (75, .istore 6, []), (77, .iload 6, []), (79, .ifCond .eq 61, [72]), (82, .aload_n 0, []), (83, .iload_n 1, []), (84, .iload_n 2, []), (85, .invokevirtual 242, [171, 1014, 1016, 53]), (88, .ifCond .eq 43, [68]), (91, .iconst 0, []), (92, .istore 7, []), (94, .iload 7, []), (96, .aload_n 0, []), (97, .getfield 239, [4, 27, 704]), (100, .if_icmp .ge 28, [67]), (103, .iload 5, []), (105, .ifCond .ne 23, [67]), (108, .aload_n 0, []), (109, .getfield 65, [4, 25, 702]), (112, .iload 7, []), (114, .aload_n 0, []), (115, .getfield 62, [4, 24, 701]), (118, .iload 7, []), (120, .iaload, []), (121, .iastore, []), (122, .iinc 7 1, []), (125, .goto (-31), [51]), (128, .iinc 5 1, []), (131, .aload_n 0, []), (132, .invokevirtual 245, [170, 1018, 1020, 54]), (135, .istore 6, []), (137, .goto (-60), [42]), (140, .aload_n 0, []), (141, .iload_n 3, []), (142, .putfield 94, [4, 4, 681]), (145, .aload_n 0, []), (146, .iload 4, []), (148, .putfield 137, [4, 6, 683]), (151, .iconst 0, []), (152, .istore 7, []), (154, .iload 7, []), (156, .bipush 12, []), (158, .if_icmp .ge 40, [103]), (161, .aload_n 0, []), (162, .getfield 13, [4, 2, 679]), (165, .iload 7, []), (167, .aload_n 0, []), (168, .getfield 68, [4, 26, 703]), (171, .iload 7, []), (173, .iaload, []), (174, .iastore, []), (175, .aload_n 0, []), (176, .getfield 16, [4, 3, 680]), (179, .iload 7, []), (181, .aload_n 0, []), (182, .getfield 68, [4, 26, 703]), (185, .bipush 12, []), (187, .iload 7, []), (189, .iadd, []), (190, .iaload, []), (191, .iastore, []), (192, .iinc 7 1, []), (195, .goto (-41), [80]), (198, .iload 5, []), (200, .ireturn, [])]
def zk_173 : List zR := [(0, .iload_n 1, []), (1, .i2l, []), (2, .lconst 1, []), (3, .iconst 1, []), (4, .aload_n 0, []), (5, .getfield 71, [4, 1, 678]), (8, .ishl, []), (9, .iconst 1, []), (10, .isub, []), (11, .i2l, []), (12, .invokestatic 74, [112, 767, 768]), (15, .ifCond .eq 11, [16]), (18, .iload_n 2, []), (19, .iload_n 3, []), (20, .invokestatic 233, [164, 987, 988]), (23, .ifCond .ne 5, [18]), (26, .iconst (-1), []), (27, .ireturn, []), (28, .aload_n 0, []), (29, .iconst 0, []), (30, .putfield 239, [4, 27, 704]), (33, .iconst 0, []), (34, .istore 6, []), (36, .iload 6, []), (38, .aload_n 0, []), (39, .getfield 71, [4, 1, 678]), (42, .if_icmp .ge 50, [54]), (45, .iload_n 1, []), (46, .iload 6, []), (48, .ishr, []), (49, .iconst 1, []), (50, .iand, []), (51, .iconst 1, []), (52, .if_icmp .ne 34, [52]), (55, .aload_n 0, []), (56, .getfield 239, [4, 27, 704]), (59, .iconst 5, []), (60, .if_icmp .ne 5, [40]), (63, .iconst (-1), []), (64, .ireturn, []), (65, .aload_n 0, []), (66, .getfield 62, [4, 24, 701]), (69, .aload_n 0, []), (70, .getfield 239, [4, 27, 704]), (73, .iload 6, []), (75, .iastore, []), (76, .aload_n 0, []), (77, .dup, []), (78, .getfield 239, [4, 27, 704]), (81, .iconst 1, []), (82, .iadd, []), (83, .putfield 239, [4, 27, 704]), (86, .iinc 6 1, []), (89, .goto (-53), [23]), (92, .aload_n 0, []), (93, .getfield 239, [4, 27, 704]), (96, .iconst 2, []), (97, .if_icmp .lt 22, [68]), (100, .iload 5, []), (102, .i2l, []), (103, .ldc2_w 103, [1, 1, 800]), (106, .aload_n 0, []), (107, .getfield 239, [4, 27, 704]), (110, .iconst 1, []), (111, .isub, []), (112, .i2l, []), (113, .invokestatic 74, [112, 767, 768]), (116, .ifCond .ne 5, [70]), (119, .iconst (-1), []), (120, .ireturn, []), (121, .aload_n 0, []), (122, .iload_n 2, []), (123, .iload_n 3, []), (124, .iload 4, []), (126, .iconst 2, []), (127, .aload_n 0, []), (128, .getfield 239, [4, 27, 704]), (131, .imul, []), (132, .invokevirtual 236, [167, 998, 1000, 51]), (135, .istore 6, []), (137, .iload 6, []), (139, .ifCond .ge 6, [84]), (142, .iload 6, []), (144, .ireturn, []), (145, .aload_n 0, []), (146, .iload_n 1, []), (147, .bipush 24, []), (149, .iload_n 2, []), (150, .imul, []), (151, .iload 4, []), (153, .iadd, []), (154, .invokevirtual 248, [172, 1010, 1012, 52]), (157, .istore 7, []), (159, .iload 7, []), (161, .ifCond .ne 8, [97]), (164, .bipush (-4), []), (166, .goto 20, [105]), (169, .iload 5, []), (171, .ifCond .ge 8, [101]), (174, .iload 7, []), (176, .goto 10, [105]), (179, .aload_n 0, []), (180, .getfield 65, [4, 25, 702]), (183, .iload 5, []), (185, .iaload, []), (186, .ireturn, [])]
def zk_174 : List zR := [(0, .iload_n 1, []), (1, .iload_n 2, []), (2, .invokestatic 233, [164, 987, 988]), (5, .ifCond .ne 5, [6]), (8, .iconst (-1), []), (9, .ireturn, []), (10, .aload_n 0, []), (11, .iload_n 1, []), (12, .iload_n 2, []), (13, .iload_n 3, []), (14, .iconst 2, []), (15, .aload_n 0, []), (16, .getfield 94, [4, 4, 681]), (19, .imul, []), (20, .invokevirtual 236, [167, 998, 1000, 51]), (23, .istore 4, []), (25, .iload 4, []), (27, .ifCond .ge 6, [20]), (30, .iload 4, []), (32, .ireturn, []), (33, .iconst 0, []), (34, .istore 5, []), (36, .iload 5, []), (38, .aload_n 0, []), (39, .getfield 94, [4, 4, 681]), (42, .if_icmp .ge 92, [85]), (45, .aload_n 0, []), (46, .getfield 13, [4, 2, 679]), (49, .iload 5, []), (51, .iaload, []), (52, .istore 6, []), (54, .aload_n 0, []), (55, .getfield 59, [4, 23, 700]), (58, .bipush 24, []), (60, .iload_n 1, []), (61, .imul, []), (62, .iload_n 3, []), (63, .iadd, []), (64, .iconst 2, []), (65, .iload 5, []), (67, .imul, []), (68, .iadd, []), (69, .aload_n 0, []), (70, .getfield 7, [4, 0, 677]), (73, .bipush 6, []), (75, .iload 6, []), (77, .imul, []), (78, .iconst 3, []), (79, .iadd, []), (80, .aload_n 0, []), (81, .getfield 16, [4, 3, 680]), (84, .iload 5, []), (86, .iaload, []), (87, .iadd, []), (88, .iaload, []), (89, .iastore, []), (90, .aload_n 0, []), (91, .getfield 59, [4, 23, 700]), (94, .bipush 24, []), (96, .iload_n 1, []), (97, .imul, []), (98, .iload_n 3, []), (99, .iadd, []), (100, .iconst 2, []), (101, .iload 5, []), (103, .imul, []), (104, .iadd, []), (105, .iconst 1, []), (106, .iadd, []), (107, .aload_n 0, []), (108, .getfield 7, [4, 0, 677]), (111, .bipush 6, []), (113, .iload 6, []), (115, .imul, []), (116, .iconst 4, []), (117, .iadd, []), (118, .aload_n 0, []), (119, .getfield 16, [4, 3, 680]), (122, .iload 5, []), (124, .iaload, []), (125, .isub, []), (126, .iaload, []), (127, .iastore, []), (128, .iinc 5 1, []), (131, .goto (-95), [22]), (134, .iconst 2, []), (135, .aload_n 0, []), (136, .getfield 94, [4, 4, 681]), (139, .imul, []), (140, .ireturn, [])]
def zk_175 : List zR := [(0, .iload_n 0, []), (1, .iload_n 0, []), (2, .iconst 1, []), (3, .iushr, []), (4, .ldc_w 265, [1431655765, 0, 604]), (7, .iand, []), (8, .isub, []), (9, .istore_n 0, []), (10, .iload_n 0, []), (11, .ldc_w 266, [858993459, 0, 605]), (14, .iand, []), (15, .iload_n 0, []), (16, .iconst 2, []), (17, .iushr, []), (18, .ldc_w 266, [858993459, 0, 605]), (21, .iand, []), (22, .iadd, []), (23, .istore_n 0, []), (24, .iload_n 0, []), (25, .iload_n 0, []), (26, .iconst 4, []), (27, .iushr, []), (28, .iadd, []), (29, .ldc_w 267, [252645135, 0, 606]), (32, .iand, []), (33, .istore_n 0, []), (34, .iload_n 0, []), (35, .iload_n 0, []), (36, .bipush 8, []), (38, .iushr, []), (39, .iadd, []), (40, .istore_n 0, []), (41, .iload_n 0, []), (42, .iload_n 0, []), (43, .bipush 16, []), (45, .iushr, []), (46, .iadd, []), (47, .istore_n 0, []), (48, .iload_n 0, []), (49, .bipush 63, []), (51, .iand, []), (52, .ireturn, [])]
def zk_176 : List zR := [(0, .iload_n 0, []), (1, .iload_n 1, []), (2, .irem, []), (3, .istore_n 2, []), (4, .iload_n 0, []), (5, .iload_n 1, []), (6, .ixor, []), (7, .ifCond .ge 11, [14]), (10, .iload_n 2, []), (11, .ifCond .eq 7, [14]), (14, .iload_n 2, []), (15, .iload_n 1, []), (16, .iadd, []), (17, .ireturn, []), (18, .iload_n 2, []), (19, .ireturn, [])]
def zk_177 : List zR := [(0, .iload_n 0, []), (1, .ifCond .ge 8, [5]), (4, .iload_n 0, []), (5, .ineg, []), (6, .goto 4, [6]), (9, .iload_n 0, []), (10, .ireturn, [])]
def zk_178 : List zR := [(0, .iload_n 0, []), (1, .iload_n 1, []), (2, .if_icmp .lt 7, [5]), (5, .iload_n 0, []), (6, .goto 4, [6]), (9, .iload_n 1, []), (10, .ireturn, [])]
def zk_179 : List zR := [(0, .iload_n 0, []), (1, .iload_n 1, []), (2, .if_icmp .gt 7, [5]), (5, .iload_n 0, []), (6, .goto 4, [6]), (9, .iload_n 1, []), (10, .ireturn, [])]
def zPl : List (List zR) := [zk_0, zk_1, zk_2, zk_3, zk_4, zk_5, zk_6, zk_7, zk_8, zk_9, zk_10, zk_11, zk_12, zk_13, zk_14, zk_15, zk_16, zk_17, zk_18, zk_19, zk_20, zk_21, zk_22, zk_23, zk_24, zk_25, zk_26, zk_27, zk_28, zk_29, zk_30, zk_31, zk_32, zk_33, zk_34, zk_35, zk_36, zk_37, zk_38, zk_39, zk_40, zk_41, zk_42, zk_43, zk_44, zk_45, zk_46, zk_47, zk_48, zk_49, zk_50, zk_51, zk_52, zk_53, zk_54, zk_55, zk_56, zk_57, zk_58, zk_59, zk_60, zk_61, zk_62, zk_63, zk_64, zk_65, zk_66, zk_67, zk_68, zk_69, zk_70, zk_71, zk_72, zk_73, zk_74, zk_75, zk_76, zk_77, zk_78, zk_79, zk_80, zk_81, zk_82, zk_83, zk_84, zk_85, zk_86, zk_87, zk_88, zk_89, zk_90, zk_91, zk_92, zk_93, zk_94, zk_95, zk_96, zk_97, zk_98, zk_99, zk_100, zk_101, zk_102, zk_103, zk_104, zk_105, zk_106, zk_107, zk_108, zk_109, zk_110, zk_111, zk_112, zk_113, zk_114, zk_115, zk_116, zk_117, zk_118, zk_119, zk_120, zk_121, zk_122, zk_123, zk_124, zk_125, zk_126, zk_127, zk_128, zk_129, zk_130, zk_131, zk_132, zk_133, zk_134, zk_135, zk_136, zk_137, zk_138, zk_139, zk_140, zk_141, zk_142, zk_143, zk_144, zk_145, zk_146, zk_147, zk_148, zk_149, zk_150, zk_151, zk_152, zk_153, zk_154, zk_155, zk_156, zk_157, zk_158, zk_159, zk_160, zk_161, zk_162, zk_163, zk_164, zk_165, zk_166, zk_167, zk_168, zk_169, zk_170, zk_171, zk_172, zk_173, zk_174, zk_175, zk_176, zk_177, zk_178, zk_179]
abbrev zMeT := MethodName × ByteArray × Nat × Option FieldType × Nat × Nat × Nat × Nat
/-- name, bytes, locals, kind of answer, parameters, class (99: a static one), place of its code word, of its class's being initialized -/
def zm_0 : zMeT := (yX0_isNothing, cX0_isNothing, 1, (some .boolean), 0, 0, 653, 59)
def zm_1 : zMeT := (yX0_holdNew, cX0_holdNew, 4, none, 2, 0, 644, 59)
def zm_2 : zMeT := (yX0_holdNothing, cX0_holdNothing, 1, (some .int), 0, 0, 657, 59)
def zm_3 : zMeT := (yX0_refusalOf, cX0_refusalOf, 4, (some .int), 3, 0, 587, 59)
def zm_4 : zMeT := (yX0_itemAt, cX0_itemAt, 2, (some .int), 1, 0, 591, 59)
def zm_5 : zMeT := (yX0_setItem, cX0_setItem, 3, none, 2, 0, 665, 59)
def zm_6 : zMeT := (yX1_copyFrom, cX1_copyFrom, 2, none, 1, 1, 288, 57)
def zm_7 : zMeT := (yX1_clear, cX1_clear, 1, none, 0, 1, 301, 57)
def zm_8 : zMeT := (yX1_isFull, cX1_isFull, 1, (some .boolean), 0, 1, 193, 57)
def zm_9 : zMeT := (yX1_addStone, cX1_addStone, 5, (some .int), 3, 1, 197, 57)
def zm_10 : zMeT := (yX1_setNotLaid, cX1_setNotLaid, 2, none, 1, 1, 208, 57)
def zm_11 : zMeT := (yX1_stoneCount, cX1_stoneCount, 1, (some .int), 0, 1, 338, 57)
def zm_12 : zMeT := (yX1_hasStone, cX1_hasStone, 2, (some .boolean), 1, 1, 216, 57)
def zm_13 : zMeT := (yX1_hasSet, cX1_hasSet, 2, (some .boolean), 1, 1, 610, 57)
def zm_14 : zMeT := (yX1_kindOf, cX1_kindOf, 2, (some .int), 1, 1, 239, 57)
def zm_15 : zMeT := (yX1_teethOf, cX1_teethOf, 3, (some .int), 2, 1, 223, 57)
def zm_16 : zMeT := (yX1_markOf, cX1_markOf, 3, (some .int), 2, 1, 230, 57)
def zm_17 : zMeT := (yX1_setMark, cX1_setMark, 4, none, 3, 1, 204, 57)
def zm_18 : zMeT := (yX1_handOf, cX1_handOf, 2, (some .int), 1, 1, 251, 57)
def zm_19 : zMeT := (yX1_setHand, cX1_setHand, 3, none, 2, 1, 264, 57)
def zm_20 : zMeT := (yX1_handSize, cX1_handSize, 4, (some .int), 1, 1, 355, 57)
def zm_21 : zMeT := (yX1_scoreOf, cX1_scoreOf, 2, (some .int), 1, 1, 360, 57)
def zm_22 : zMeT := (yX1_placeOf, cX1_placeOf, 2, (some .int), 1, 1, 243, 57)
def zm_23 : zMeT := (yX1_isLaid, cX1_isLaid, 2, (some .boolean), 1, 1, 259, 57)
def zm_24 : zMeT := (yX1_frontOf, cX1_frontOf, 2, (some .int), 1, 1, 247, 57)
def zm_25 : zMeT := (yX1_backOf, cX1_backOf, 2, (some .int), 1, 1, 440, 57)
def zm_26 : zMeT := (yX1_trainLength, cX1_trainLength, 1, (some .int), 0, 1, 351, 57)
def zm_27 : zMeT := (yX1_stoneInTrain, cX1_stoneInTrain, 2, (some .int), 1, 1, 368, 57)
def zm_28 : zMeT := (yX1_isRing, cX1_isRing, 1, (some .boolean), 0, 1, 373, 57)
def zm_29 : zMeT := (yX1_setRing, cX1_setRing, 2, none, 1, 1, 470, 57)
def zm_30 : zMeT := (yX1_drawIs, cX1_drawIs, 1, (some .int), 0, 1, 560, 57)
def zm_31 : zMeT := (yX1_setDraw, cX1_setDraw, 2, none, 1, 1, 564, 57)
def zm_32 : zMeT := (yX1_lastTeeth, cX1_lastTeeth, 2, (some .int), 0, 1, 386, 57)
def zm_33 : zMeT := (yX1_areNear, cX1_areNear, 2, (some .boolean), 2, 99, 389, 57)
def zm_34 : zMeT := (yX1_fits, cX1_fits, 3, (some .boolean), 2, 1, 381, 57)
def zm_35 : zMeT := (yX1_mayLay, cX1_mayLay, 4, (some .boolean), 2, 1, 517, 57)
def zm_36 : zMeT := (yX1_canBeRing, cX1_canBeRing, 2, (some .boolean), 0, 1, 466, 57)
def zm_37 : zMeT := (yX1_layDown, cX1_layDown, 6, (some .int), 2, 1, 401, 57)
def zm_38 : zMeT := (yX1_scoreNow, cX1_scoreNow, 3, (some .int), 0, 1, 444, 57)
def zm_39 : zMeT := (yX1_upMarks, cX1_upMarks, 4, (some .int), 0, 1, 364, 57)
def zm_40 : zMeT := (yX1_liftLast, cX1_liftLast, 3, none, 1, 1, 458, 57)
def zm_41 : zMeT := (yX1_backWay, cX1_backWay, 3, (some .int), 2, 1, 413, 57)
def zm_42 : zMeT := (yX1_backWayAt, cX1_backWayAt, 4, (some .int), 1, 1, 409, 57)
def zm_43 : zMeT := (yX1_lastBackWay, cX1_lastBackWay, 1, (some .int), 0, 1, 405, 57)
def zm_44 : zMeT := (yX1_lockOf, cX1_lockOf, 7, (some .int), 1, 1, 417, 57)
def zm_45 : zMeT := (yX1_hasPawl, cX1_hasPawl, 3, (some .boolean), 1, 1, 421, 57)
def zm_46 : zMeT := (yX1_turnTrain, cX1_turnTrain, 5, none, 1, 1, 425, 57)
def zm_47 : zMeT := (yX1_turnWheel, cX1_turnWheel, 4, none, 3, 1, 430, 57)
def zm_48 : zMeT := (yX1_remainder, cX1_remainder, 2, (some .int), 2, 99, 433, 57)
def zm_49 : zMeT := (yX1_teethAround, cX1_teethAround, 4, (some .int), 0, 1, 493, 57)
def zm_50 : zMeT := (yX1_commonMultiple, cX1_commonMultiple, 4, (some .int), 2, 99, 496, 57)
def zm_51 : zMeT := (yX1_teethUntilUp, cX1_teethUntilUp, 8, (some .int), 0, 1, 504, 57)
def zm_52 : zMeT := (yX1_firstUp, cX1_firstUp, 10, (some .int), 5, 1, 508, 57)
def zm_53 : zMeT := (yX1_teethUntilPoint, cX1_teethUntilPoint, 5, (some .int), 2, 1, 535, 57)
def zm_54 : zMeT := (yX1_layDrawn, cX1_layDrawn, 5, (some .boolean), 1, 1, 543, 57)
def zm_55 : zMeT := (yX1_countLays, cX1_countLays, 4, (some .int), 1, 1, 547, 57)
def zm_56 : zMeT := (yX2_length, cX2_length, 1, (some .int), 0, 2, 275, 58)
def zm_57 : zMeT := (yX2_addByte, cX2_addByte, 2, none, 1, 2, 279, 58)
def zm_58 : zMeT := (yX2_empty, cX2_empty, 1, none, 0, 2, 342, 58)
def zm_59 : zMeT := (yX2_readTo, cX2_readTo, 4, (some .int), 1, 2, 305, 58)
def zm_60 : zMeT := (yX2_stepOn, cX2_stepOn, 1, none, 0, 2, 309, 58)
def zm_61 : zMeT := (yX2_readStone, cX2_readStone, 5, (some .boolean), 1, 2, 314, 58)
def zm_62 : zMeT := (yX2_readMark, cX2_readMark, 5, (some .boolean), 3, 2, 332, 58)
def zm_63 : zMeT := (yX2_readKind, cX2_readKind, 1, (some .int), 0, 2, 323, 58)
def zm_64 : zMeT := (yX2_readDigit, cX2_readDigit, 4, (some .int), 2, 2, 318, 58)
def zm_65 : zMeT := (yX2_readSign, cX2_readSign, 2, (some .boolean), 1, 2, 327, 58)
def zm_66 : zMeT := (yX3_stone, cX3_stone, 4, (some .int), 3, 3, 183, 56)
def zm_67 : zMeT := (yX3_mark, cX3_mark, 5, (some .int), 3, 3, 212, 56)
def zm_68 : zMeT := (yX3_told, cX3_told, 3, (some .int), 2, 3, 235, 56)
def zm_69 : zMeT := (yX3_deal, cX3_deal, 4, (some .int), 2, 3, 255, 56)
def zm_70 : zMeT := (yX3_type, cX3_type, 5, (some .int), 2, 3, 268, 56)
def zm_71 : zMeT := (yX3_stones, cX3_stones, 2, (some .int), 0, 3, 284, 56)
def zm_72 : zMeT := (yX3_count, cX3_count, 2, (some .int), 1, 3, 346, 56)
def zm_73 : zMeT := (yX3_may, cX3_may, 3, (some .int), 2, 3, 377, 56)
def zm_74 : zMeT := (yX3_lay, cX3_lay, 4, (some .int), 2, 3, 396, 56)
def zm_75 : zMeT := (yX3_take, cX3_take, 2, (some .int), 1, 3, 454, 56)
def zm_76 : zMeT := (yX3_shut, cX3_shut, 3, (some .int), 1, 3, 462, 56)
def zm_77 : zMeT := (yX3_locked, cX3_locked, 1, (some .int), 0, 3, 474, 56)
def zm_78 : zMeT := (yX3_crank, cX3_crank, 2, (some .int), 1, 3, 480, 56)
def zm_79 : zMeT := (yX3_around, cX3_around, 2, (some .int), 0, 3, 485, 56)
def zm_80 : zMeT := (yX3_up, cX3_up, 2, (some .int), 0, 3, 500, 56)
def zm_81 : zMeT := (yX3_best, cX3_best, 7, (some .int), 2, 3, 512, 56)
def zm_82 : zMeT := (yX3_point, cX3_point, 4, (some .int), 2, 3, 530, 56)
def zm_83 : zMeT := (yX3_match, cX3_match, 4, (some .int), 1, 3, 539, 56)
def zm_84 : zMeT := (yX3_seed, cX3_seed, 3, (some .int), 1, 3, 556, 56)
def zm_85 : zMeT := (yX3_image, cX3_image, 1, (some .int), 0, 3, 568, 56)
def zm_86 : zMeT := (yX3_restore, cX3_restore, 1, (some .int), 0, 3, 572, 56)
def zm_87 : zMeT := (yX3_judged, cX3_judged, 8, (some .int), 4, 3, 576, 56)
def zm_88 : zMeT := (yX3_orders, cX3_orders, 10, (some .int), 5, 3, 600, 56)
def zm_89 : zMeT := (yX3_sheet, cX3_sheet, 5, (some .int), 3, 3, 640, 56)
def zm_90 : zMeT := (yX3_drop, cX3_drop, 3, (some .int), 1, 3, 649, 56)
def zm_91 : zMeT := (yX3_item, cX3_item, 7, (some .int), 4, 3, 661, 56)
def zm_92 : zMeT := (yX3_film, cX3_film, 9, (some .int), 3, 3, 669, 56)
def zm_93 : zMeT := (yX3_isWithin, cX3_isWithin, 3, (some .boolean), 3, 99, 186, 56)
def zm_94 : zMeT := (yX3_isTeeth, cX3_isTeeth, 1, (some .boolean), 1, 99, 189, 56)
def zm_95 : zMeT := (yX3_isWheel, cX3_isWheel, 1, (some .boolean), 1, 99, 219, 56)
def zm_96 : zMeT := (yX3_isHand, cX3_isHand, 1, (some .boolean), 1, 99, 449, 56)
def zm_97 : zMeT := (yX3_isLane, cX3_isLane, 1, (some .boolean), 1, 99, 583, 56)
def zm_98 : zMeT := (yX3_lowByte, cX3_lowByte, 3, (some .int), 2, 99, 271, 56)
def zm_99 : zMeT := (yX3_sheetAt, cX3_sheetAt, 2, (some (.object "ToothStones$Sheet")), 1, 3, 580, 56)
def zm_100 : zMeT := (yX3_crankRefusal, cX3_crankRefusal, 1, (some .int), 0, 3, 489, 56)
def zm_101 : zMeT := (yX3_worthOf, cX3_worthOf, 6, (some .int), 2, 3, 523, 56)
def zm_102 : zMeT := (yX3_firstThatMayNot, cX3_firstThatMayNot, 7, (some .int), 3, 3, 596, 56)
def zm_103 : zMeT := (yX3_countOrders, cX3_countOrders, 8, (some .int), 4, 3, 614, 56)
def zm_104 : zMeT := (yX3_startOrder, cX3_startOrder, 4, none, 1, 3, 618, 56)
def zm_105 : zMeT := (yX3_nextOrder, cX3_nextOrder, 6, (some .boolean), 1, 3, 632, 56)
def zm_106 : zMeT := (yX3_swapInOrder, cX3_swapInOrder, 4, none, 2, 3, 636, 56)
def zm_107 : zMeT := (yX3_bringsMarks, cX3_bringsMarks, 7, (some .boolean), 4, 3, 626, 56)
def zm_108 : zMeT := (yX3_isIn, cX3_isIn, 2, (some .boolean), 2, 99, 621, 56)
def zm_109 : zMeT := (yX3_at, cX3_at, 2, (some .int), 2, 99, 226, 56)
def zm_110 : zMeT := (yX3_put, cX3_put, 3, none, 3, 99, 200, 56)
def zm_111 : zMeT := (yX3_copyRow, cX3_copyRow, 2, none, 2, 99, 291, 56)
def zm_112 : zMeT := (yX4_in, cX4_in, 6, (some .boolean), 3, 99, 769, 60)
def zm_113 : zMeT := (yX4_isStone, cX4_isStone, 2, (some .boolean), 1, 4, 782, 60)
def zm_114 : zMeT := (yX4_teeth, cX4_teeth, 3, (some .int), 2, 4, 786, 60)
def zm_115 : zMeT := (yX4_add, cX4_add, 7, none, 5, 4, 774, 60)
def zm_116 : zMeT := (yX4_stone, cX4_stone, 4, (some .int), 3, 4, 765, 60)
def zm_117 : zMeT := (yX4_mark, cX4_mark, 5, (some .int), 3, 4, 778, 60)
def zm_118 : zMeT := (yX4_placeOf, cX4_placeOf, 4, (some .int), 1, 4, 795, 60)
def zm_119 : zMeT := (yX4_told, cX4_told, 4, (some .int), 2, 4, 790, 60)
def zm_120 : zMeT := (yX4_deal, cX4_deal, 4, (some .int), 2, 4, 799, 60)
def zm_121 : zMeT := (yX4_type, cX4_type, 5, (some .int), 2, 4, 804, 60)
def zm_122 : zMeT := (yX4_nextByte, cX4_nextByte, 1, (some .int), 0, 4, 828, 60)
def zm_123 : zMeT := (yX4_readDigit, cX4_readDigit, 5, (some .boolean), 3, 4, 824, 60)
def zm_124 : zMeT := (yX4_readStone, cX4_readStone, 3, (some .boolean), 1, 4, 820, 60)
def zm_125 : zMeT := (yX4_readStones, cX4_readStones, 3, (some .boolean), 0, 4, 816, 60)
def zm_126 : zMeT := (yX4_stones, cX4_stones, 3, (some .int), 0, 4, 812, 60)
def zm_127 : zMeT := (yX4_isPawled, cX4_isPawled, 2, (some .boolean), 1, 4, 883, 60)
def zm_128 : zMeT := (yX4_findWays, cX4_findWays, 4, none, 1, 4, 867, 60)
def zm_129 : zMeT := (yX4_lockedAt, cX4_lockedAt, 3, (some .int), 0, 4, 879, 60)
def zm_130 : zMeT := (yX4_isOdd, cX4_isOdd, 1, (some .boolean), 0, 4, 875, 60)
def zm_131 : zMeT := (yX4_isLocked, cX4_isLocked, 1, (some .boolean), 0, 4, 871, 60)
def zm_132 : zMeT := (yX4_wayForBack, cX4_wayForBack, 1, (some .int), 0, 4, 863, 60)
def zm_133 : zMeT := (yX4_round, cX4_round, 4, (some .int), 3, 99, 890, 60)
def zm_134 : zMeT := (yX4_turnAll, cX4_turnAll, 5, none, 1, 4, 887, 60)
def zm_135 : zMeT := (yX4_upMarks, cX4_upMarks, 3, (some .int), 0, 4, 836, 60)
def zm_136 : zMeT := (yX4_count, cX4_count, 5, (some .int), 1, 4, 832, 60)
def zm_137 : zMeT := (yX4_mesh, cX4_mesh, 2, (some .boolean), 2, 99, 847, 60)
def zm_138 : zMeT := (yX4_mayLay, cX4_mayLay, 3, (some .boolean), 2, 4, 844, 60)
def zm_139 : zMeT := (yX4_may, cX4_may, 3, (some .int), 2, 4, 840, 60)
def zm_140 : zMeT := (yX4_put, cX4_put, 5, (some .int), 2, 4, 859, 60)
def zm_141 : zMeT := (yX4_layOne, cX4_layOne, 5, (some .int), 2, 4, 855, 60)
def zm_142 : zMeT := (yX4_lay, cX4_lay, 3, (some .int), 2, 4, 851, 60)
def zm_143 : zMeT := (yX4_take, cX4_take, 2, (some .int), 1, 4, 894, 60)
def zm_144 : zMeT := (yX4_shut, cX4_shut, 4, (some .int), 1, 4, 899, 60)
def zm_145 : zMeT := (yX4_locked, cX4_locked, 2, (some .int), 0, 4, 903, 60)
def zm_146 : zMeT := (yX4_crank, cX4_crank, 2, (some .int), 1, 4, 907, 60)
def zm_147 : zMeT := (yX4_isForwardLocked, cX4_isForwardLocked, 1, (some .boolean), 0, 4, 917, 60)
def zm_148 : zMeT := (yX4_common, cX4_common, 5, (some .int), 2, 99, 924, 60)
def zm_149 : zMeT := (yX4_roundOf, cX4_roundOf, 4, (some .int), 0, 4, 921, 60)
def zm_150 : zMeT := (yX4_around, cX4_around, 1, (some .int), 0, 4, 913, 60)
def zm_151 : zMeT := (yX4_teethTo, cX4_teethTo, 5, (some .int), 4, 4, 936, 60)
def zm_152 : zMeT := (yX4_isUpBehind, cX4_isUpBehind, 6, (some .boolean), 1, 4, 932, 60)
def zm_153 : zMeT := (yX4_up, cX4_up, 3, (some .int), 0, 4, 928, 60)
def zm_154 : zMeT := (yX4_point, cX4_point, 5, (some .int), 2, 4, 940, 60)
def zm_155 : zMeT := (yX4_keepIn, cX4_keepIn, 3, none, 1, 4, 949, 60)
def zm_156 : zMeT := (yX4_bringBack, cX4_bringBack, 4, none, 2, 4, 957, 60)
def zm_157 : zMeT := (yX4_greatestOf, cX4_greatestOf, 6, (some .int), 1, 4, 953, 60)
def zm_158 : zMeT := (yX4_best, cX4_best, 8, (some .int), 2, 4, 944, 60)
def zm_159 : zMeT := (yX4_laysOf, cX4_laysOf, 5, (some .int), 2, 4, 966, 60)
def zm_160 : zMeT := (yX4_match, cX4_match, 6, (some .int), 1, 4, 961, 60)
def zm_161 : zMeT := (yX4_seed, cX4_seed, 3, (some .int), 1, 4, 974, 60)
def zm_162 : zMeT := (yX4_image, cX4_image, 2, (some .int), 0, 4, 978, 60)
def zm_163 : zMeT := (yX4_restore, cX4_restore, 2, (some .int), 0, 4, 982, 60)
def zm_164 : zMeT := (yX4_isSheet, cX4_isSheet, 2, (some .boolean), 2, 99, 989, 60)
def zm_165 : zMeT := (yX4_sheet, cX4_sheet, 5, (some .int), 3, 4, 986, 60)
def zm_166 : zMeT := (yX4_drop, cX4_drop, 2, (some .int), 1, 4, 993, 60)
def zm_167 : zMeT := (yX4_lacksRow, cX4_lacksRow, 5, (some .int), 4, 4, 1001, 60)
def zm_168 : zMeT := (yX4_item, cX4_item, 6, (some .int), 4, 4, 997, 60)
def zm_169 : zMeT := (yX4_judged, cX4_judged, 12, (some .int), 4, 4, 1005, 60)
def zm_170 : zMeT := (yX4_nextOrder, cX4_nextOrder, 6, (some .boolean), 0, 4, 1021, 60)
def zm_171 : zMeT := (yX4_brings, cX4_brings, 6, (some .boolean), 2, 4, 1017, 60)
def zm_172 : zMeT := (yX4_countOrders, cX4_countOrders, 8, (some .int), 2, 4, 1013, 60)
def zm_173 : zMeT := (yX4_orders, cX4_orders, 8, (some .int), 5, 4, 1009, 60)
def zm_174 : zMeT := (yX4_film, cX4_film, 7, (some .int), 3, 4, 1025, 60)
def zm_175 : zMeT := (yJ6_bitCount_0f7a4, cJ6_bitCount_0f7a4, 1, (some .int), 1, 99, 603, 63)
def zm_176 : zMeT := (yJ9_floorMod_7cf53, cJ9_floorMod_7cf53, 3, (some .int), 2, 99, 436, 61)
def zm_177 : zMeT := (yJ9_abs_0f7a4, cJ9_abs_0f7a4, 1, (some .int), 1, 99, 392, 61)
def zm_178 : zMeT := (yJ9_max_7cf53, cJ9_max_7cf53, 2, (some .int), 2, 99, 526, 61)
def zm_179 : zMeT := (yJ9_min_7cf53, cJ9_min_7cf53, 2, (some .int), 2, 99, 294, 61)
def zMe : List zMeT := [zm_0, zm_1, zm_2, zm_3, zm_4, zm_5, zm_6, zm_7, zm_8, zm_9, zm_10, zm_11, zm_12, zm_13, zm_14, zm_15, zm_16, zm_17, zm_18, zm_19, zm_20, zm_21, zm_22, zm_23, zm_24, zm_25, zm_26, zm_27, zm_28, zm_29, zm_30, zm_31, zm_32, zm_33, zm_34, zm_35, zm_36, zm_37, zm_38, zm_39, zm_40, zm_41, zm_42, zm_43, zm_44, zm_45, zm_46, zm_47, zm_48, zm_49, zm_50, zm_51, zm_52, zm_53, zm_54, zm_55, zm_56, zm_57, zm_58, zm_59, zm_60, zm_61, zm_62, zm_63, zm_64, zm_65, zm_66, zm_67, zm_68, zm_69, zm_70, zm_71, zm_72, zm_73, zm_74, zm_75, zm_76, zm_77, zm_78, zm_79, zm_80, zm_81, zm_82, zm_83, zm_84, zm_85, zm_86, zm_87, zm_88, zm_89, zm_90, zm_91, zm_92, zm_93, zm_94, zm_95, zm_96, zm_97, zm_98, zm_99, zm_100, zm_101, zm_102, zm_103, zm_104, zm_105, zm_106, zm_107, zm_108, zm_109, zm_110, zm_111, zm_112, zm_113, zm_114, zm_115, zm_116, zm_117, zm_118, zm_119, zm_120, zm_121, zm_122, zm_123, zm_124, zm_125, zm_126, zm_127, zm_128, zm_129, zm_130, zm_131, zm_132, zm_133, zm_134, zm_135, zm_136, zm_137, zm_138, zm_139, zm_140, zm_141, zm_142, zm_143, zm_144, zm_145, zm_146, zm_147, zm_148, zm_149, zm_150, zm_151, zm_152, zm_153, zm_154, zm_155, zm_156, zm_157, zm_158, zm_159, zm_160, zm_161, zm_162, zm_163, zm_164, zm_165, zm_166, zm_167, zm_168, zm_169, zm_170, zm_171, zm_172, zm_173, zm_174, zm_175, zm_176, zm_177, zm_178, zm_179]
def zme (m : Nat) : zMeT := zMe.getD m zm_0
/-- the cells: the class's (0 .. 49) and the reference's (50 .. 69) -/
def zLy : List zE := [.inr (.inl (3, [some 1, some 10, none, some 19, some 28, some 37, some 39, some 48, some 49])), .inr (.inl (1, [none, some 2, some 3, some 4, some 5, some 6, some 7, none, some 8, none, some 9, none])), .inl 12, .inl 24, .inl 24, .inl 12, .inl 12, .inl 12, .inl 12, .inl 2, .inr (.inl (1, [none, some 11, some 12, some 13, some 14, some 15, some 16, none, some 17, none, some 18, none])), .inl 12, .inl 24, .inl 24, .inl 12, .inl 12, .inl 12, .inl 12, .inl 2, .inr (.inl (1, [none, some 20, some 21, some 22, some 23, some 24, some 25, none, some 26, none, some 27, none])), .inl 12, .inl 24, .inl 24, .inl 12, .inl 12, .inl 12, .inl 12, .inl 2, .inr (.inl (1, [none, some 29, some 30, some 31, some 32, some 33, some 34, none, some 35, none, some 36, none])), .inl 12, .inl 24, .inl 24, .inl 12, .inl 12, .inl 12, .inl 12, .inl 2, .inr (.inl (2, [some 38, none, none])), .inl 80, .inr (.inr [40, 42, 44, 46]), .inr (.inl (0, [some 41, none, none, none])), .inl 24, .inr (.inl (0, [some 43, none, none, none])), .inl 24, .inr (.inl (0, [some 45, none, none, none])), .inl 24, .inr (.inl (0, [some 47, none, none, none])), .inl 24, .inl 5, .inl 5, .inr (.inl (4, [some 51, none, some 52, some 53, none, some 54, none, none, some 55, none, none, none, some 56, some 57, some 58, some 59, some 60, none, some 61, some 62, some 63, some 64, some 65, some 66, some 67, some 68, some 69, none])), .inl 72, .inl 12, .inl 12, .inl 2, .inl 80, .inl 40, .inl 12, .inl 12, .inl 72, .inl 72, .inl 72, .inl 24, .inl 6, .inl 4, .inl 4, .inl 96, .inl 5, .inl 5, .inl 24]
end
section
/-! the small machine: what an instruction asks and does over cells of ints; the least predicate closed under it -/
def zP (m : Nat) : List zR := zPl.getD m []
def zpc (m i : Nat) : Nat := match (zP m)[i]? with
  | some q => q.1
  | none => 0
def zy (m : Nat) : MethodName := (zme m).1
def zb (m : Nat) : ByteArray := (zme m).2.1
def zl (m : Nat) : Nat := (zme m).2.2.1
def zr (m : Nat) : Option FieldType := (zme m).2.2.2.1
def znp (m : Nat) : Nat := (zme m).2.2.2.2.1
def zci (m : Nat) : Nat := (zme m).2.2.2.2.2.1
def zo (m : Nat) : String := (zy m).cls
abbrev zT := Nat → Nat → Nat → List (Nat × Value) → List Value → zM → (Option Value → zM → Prop) → Prop
def zL (L : List Nat) (j : Nat) : Nat := L.getD j 0
def zg : List (Nat × Value) → Nat → Option Value
  | [], _ => none
  | q :: r, k => bif Nat.beq q.1 k then some q.2 else zg r k
def zs (lv : List (Nat × Value)) (k : Nat) (v : Value) : List (Nat × Value) := (k, v) :: lv.filter (fun q => !(q.1 == k) && !(q.1 + 1 == k && q.2.category == 2))
def zu (σ : zM) (r k : Nat) (x : Int32) : zM := fun r' k' => if r' = r then upd (σ r) k x k' else σ r' k'
def zcp (σ : zM) (a b sp dp n : Nat) : zM := fun r' k' => if r' = b then va_cpy (σ a) (σ b) sp dp n k' else σ r' k'
def zf (σ : zM) (r ci k : Nat) : Option Value := match zLy[r]? with
  | some (.inr (.inl (c, fl))) => if c = ci then (fl[k]?).map (fun o => match o with | some q => .ref q | none => .int (σ r k)) else none
  | _ => none
def zfi (r ci k : Nat) : Bool := match zLy[r]? with
  | some (.inr (.inl (c, fl))) => c == ci && fl[k]? == some none
  | _ => false
def zcls (r : Nat) : Nat := match zLy[r]? with
  | some (.inr (.inl (c, _))) => c
  | _ => 99
def zfd (ci k : Nat) : String := match vwCl[ci]? with
  | some q => (q.2.1 k).2.2.1
  | none => ""
def zref (v : Value) : Prop := v = .null ∨ ∃ r, v = .ref r
def zcc (c : Jvm.ClassFile.Cond) (x y : Int32) : Prop := match c with
  | .eq => x = y
  | .ne => ¬ x = y
  | .lt => x < y
  | .ge => y ≤ x
  | .gt => y < x
  | .le => x ≤ y
def zk1 (st : List Value) (k : Int32 → List Value → Prop) : Prop := match st with
  | .int x :: r => k x r
  | _ => False
def zk2 (st : List Value) (k : Int32 → Int32 → List Value → Prop) : Prop := match st with
  | .int y :: .int x :: r => k x y r
  | _ => False
def zk1l (st : List Value) (k : Int64 → List Value → Prop) : Prop := match st with
  | .long x :: r => k x r
  | _ => False
def zk2l (st : List Value) (k : Int64 → Int64 → List Value → Prop) : Prop := match st with
  | .long y :: .long x :: r => k x y r
  | _ => False
def zkil (st : List Value) (k : Int64 → Int32 → List Value → Prop) : Prop := match st with
  | .int y :: .long x :: r => k x y r
  | _ => False
def zkv (st : List Value) (k : Value → List Value → Prop) : Prop := match st with
  | v :: r => k v r
  | _ => False
def zkr (st : List Value) (k : Nat → List Value → Prop) : Prop := match st with
  | .ref b :: r => k b r
  | _ => False
def zkir (st : List Value) (k : Int32 → Nat → List Value → Prop) : Prop := match st with
  | .int x :: .ref b :: r => k x b r
  | _ => False
def zkiir (st : List Value) (k : Int32 → Int32 → Nat → List Value → Prop) : Prop := match st with
  | .int x :: .int i :: .ref b :: r => k x i b r
  | _ => False
def zkcp (st : List Value) (k : Int32 → Int32 → Nat → Int32 → Nat → List Value → Prop) : Prop := match st with
  | .int n :: .int dp :: .ref b :: .int sp :: .ref a :: r => k n dp b sp a r
  | _ => False
theorem zk1_e {st : List Value} {k : Int32 → List Value → Prop} (h : zk1 st k) : ∃ x r, st = .int x :: r ∧ k x r := by
  unfold zk1 at h; split at h
  · exact ⟨_, _, rfl, h⟩
  · exact h.elim
theorem zk2_e {st : List Value} {k : Int32 → Int32 → List Value → Prop} (h : zk2 st k) : ∃ x y r, st = .int y :: .int x :: r ∧ k x y r := by
  unfold zk2 at h; split at h
  · exact ⟨_, _, _, rfl, h⟩
  · exact h.elim
theorem zk1l_e {st : List Value} {k : Int64 → List Value → Prop} (h : zk1l st k) : ∃ x r, st = .long x :: r ∧ k x r := by
  unfold zk1l at h; split at h
  · exact ⟨_, _, rfl, h⟩
  · exact h.elim
theorem zk2l_e {st : List Value} {k : Int64 → Int64 → List Value → Prop} (h : zk2l st k) : ∃ x y r, st = .long y :: .long x :: r ∧ k x y r := by
  unfold zk2l at h; split at h
  · exact ⟨_, _, _, rfl, h⟩
  · exact h.elim
theorem zkil_e {st : List Value} {k : Int64 → Int32 → List Value → Prop} (h : zkil st k) : ∃ x y r, st = .int y :: .long x :: r ∧ k x y r := by
  unfold zkil at h; split at h
  · exact ⟨_, _, _, rfl, h⟩
  · exact h.elim
theorem zkv_e {st : List Value} {k : Value → List Value → Prop} (h : zkv st k) : ∃ v r, st = v :: r ∧ k v r := by
  unfold zkv at h; split at h
  · exact ⟨_, _, rfl, h⟩
  · exact h.elim
theorem zkr_e {st : List Value} {k : Nat → List Value → Prop} (h : zkr st k) : ∃ b r, st = .ref b :: r ∧ k b r := by
  unfold zkr at h; split at h
  · exact ⟨_, _, rfl, h⟩
  · exact h.elim
theorem zkir_e {st : List Value} {k : Int32 → Nat → List Value → Prop} (h : zkir st k) : ∃ x b r, st = .int x :: .ref b :: r ∧ k x b r := by
  unfold zkir at h; split at h
  · exact ⟨_, _, _, rfl, h⟩
  · exact h.elim
theorem zkiir_e {st : List Value} {k : Int32 → Int32 → Nat → List Value → Prop} (h : zkiir st k) : ∃ x i b r, st = .int x :: .int i :: .ref b :: r ∧ k x i b r := by
  unfold zkiir at h; split at h
  · exact ⟨_, _, _, _, rfl, h⟩
  · exact h.elim
theorem zkcp_e {st : List Value} {k : Int32 → Int32 → Nat → Int32 → Nat → List Value → Prop} (h : zkcp st k) : ∃ n dp b sp a r, st = .int n :: .int dp :: .ref b :: .int sp :: .ref a :: r ∧ k n dp b sp a r := by
  unfold zkcp at h; split at h
  · exact ⟨_, _, _, _, _, _, rfl, h⟩
  · exact h.elim
def zcat (l : List Value) : Nat := (l.map fun v => v.category).sum
/-- a call of method m' with n values of the stack -/
def zcall (Z : zT) (d m i m' n : Nat) (lv : List (Nat × Value)) (st : List Value) (σ : zM) (Q : Option Value → zM → Prop) : Prop :=
  ∃ args rest, st = args.reverse ++ rest ∧ args.length = n ∧ (lg_sl args).length ≤ zl m' ∧ zcat rest ≤ 8 ∧ ∃ d', d = d' + 1 ∧ ∃ Q' : Option Value → zM → Prop, Z d' m' 0 (lv_args 0 args) [] σ Q' ∧ ∀ r σ', Q' r σ' → Z d m (i + 1) lv (r.toList ++ rest) σ' Q
def zcallV (Z : zT) (d m i m' n : Nat) (lv : List (Nat × Value)) (st : List Value) (σ : zM) (Q : Option Value → zM → Prop) : Prop :=
  ∃ b args rest, st = args.reverse ++ .ref b :: rest ∧ args.length = n ∧ (lg_sl (.ref b :: args)).length ≤ zl m' ∧ zcls b = zci m' ∧ zcat rest ≤ 8 ∧ ∃ d', d = d' + 1 ∧ ∃ Q' : Option Value → zM → Prop, Z d' m' 0 (lv_args 0 (.ref b :: args)) [] σ Q' ∧ ∀ r σ', Q' r σ' → Z d m (i + 1) lv (r.toList ++ rest) σ' Q
def zcopy (Z : zT) (d m i : Nat) (lv : List (Nat × Value)) (st : List Value) (σ : zM) (Q : Option Value → zM → Prop) : Prop :=
  zkcp st fun n dp b sp a r => ∃ n0 n1, zLy[a]? = some (.inl n0) ∧ zLy[b]? = some (.inl n1) ∧ ¬ sp < 0 ∧ ¬ dp < 0 ∧ ¬ n < 0 ∧ sp.toNatClampNeg + n.toNatClampNeg ≤ n0 ∧ dp.toNatClampNeg + n.toNatClampNeg ≤ n1 ∧ zcat r ≤ 8 ∧ 1 ≤ d ∧
    Z d m (i + 1) lv r (zcp σ a b sp.toNatClampNeg dp.toNatClampNeg n.toNatClampNeg) Q
def zldc (L : List Nat) : Int := if zL L 1 = 1 then -(zL L 0 : Int) else (zL L 0 : Int)
def zI (Z : zT) (d m i : Nat) (I : Instr) (L : List Nat) (lv : List (Nat × Value)) (st : List Value) (σ : zM) (Q : Option Value → zM → Prop) : Prop := match I with
  | .iconst n => Z d m (i + 1) lv (.int (Int32.ofInt n) :: st) σ Q
  | .bipush n => Z d m (i + 1) lv (.int (Int8.ofInt n).toInt32 :: st) σ Q
  | .sipush n => Z d m (i + 1) lv (.int (Int16.ofInt n).toInt32 :: st) σ Q
  | .lconst n => Z d m (i + 1) lv (.long (Int64.ofNat (n : Nat)) :: st) σ Q
  | .ldc _ => Z d m (i + 1) lv (.int (Int32.ofInt (zldc L)) :: st) σ Q
  | .ldc_w _ => Z d m (i + 1) lv (.int (Int32.ofInt (zldc L)) :: st) σ Q
  | .ldc2_w _ => Z d m (i + 1) lv (.long (Int64.ofInt (zldc L)) :: st) σ Q
  | .aconst_null => Z d m (i + 1) lv (.null :: st) σ Q
  | .iload k => ∃ x, zg lv k = some (.int x) ∧ Z d m (i + 1) lv (.int x :: st) σ Q
  | .iload_n k => ∃ x, zg lv k.val = some (.int x) ∧ Z d m (i + 1) lv (.int x :: st) σ Q
  | .lload k => ∃ x, zg lv k = some (.long x) ∧ Z d m (i + 1) lv (.long x :: st) σ Q
  | .lload_n k => ∃ x, zg lv k.val = some (.long x) ∧ Z d m (i + 1) lv (.long x :: st) σ Q
  | .aload k => ∃ v, zg lv k = some v ∧ zref v ∧ Z d m (i + 1) lv (v :: st) σ Q
  | .aload_n k => ∃ v, zg lv k.val = some v ∧ zref v ∧ Z d m (i + 1) lv (v :: st) σ Q
  | .istore k => zk1 st fun x r => Z d m (i + 1) (zs lv k (.int x)) r σ Q
  | .istore_n k => zk1 st fun x r => Z d m (i + 1) (zs lv k.val (.int x)) r σ Q
  | .astore k => zkv st fun v r => zref v ∧ Z d m (i + 1) (zs lv k v) r σ Q
  | .astore_n k => zkv st fun v r => zref v ∧ Z d m (i + 1) (zs lv k.val v) r σ Q
  | .iinc k n => ∃ x, zg lv k = some (.int x) ∧ Z d m (i + 1) (zs lv k (.int (x + Int32.ofInt n))) st σ Q
  | .iadd => zk2 st fun x y r => Z d m (i + 1) lv (.int (x + y) :: r) σ Q
  | .isub => zk2 st fun x y r => Z d m (i + 1) lv (.int (x - y) :: r) σ Q
  | .imul => zk2 st fun x y r => Z d m (i + 1) lv (.int (x * y) :: r) σ Q
  | .iand => zk2 st fun x y r => Z d m (i + 1) lv (.int (x &&& y) :: r) σ Q
  | .ior => zk2 st fun x y r => Z d m (i + 1) lv (.int (x ||| y) :: r) σ Q
  | .ixor => zk2 st fun x y r => Z d m (i + 1) lv (.int (x ^^^ y) :: r) σ Q
  | .idiv => zk2 st fun x y r => ¬ y = 0 ∧ Z d m (i + 1) lv (.int (x / y) :: r) σ Q
  | .irem => zk2 st fun x y r => ¬ y = 0 ∧ Z d m (i + 1) lv (.int (x - x / y * y) :: r) σ Q
  | .ineg => zk1 st fun x r => Z d m (i + 1) lv (.int (-x) :: r) σ Q
  | .ishl => zk2 st fun x y r => Z d m (i + 1) lv (.int (x <<< (y &&& 31)) :: r) σ Q
  | .ishr => zk2 st fun x y r => Z d m (i + 1) lv (.int (x >>> (y &&& 31)) :: r) σ Q
  | .iushr => zk2 st fun x y r => Z d m (i + 1) lv (.int (x.toUInt32 >>> (y.toUInt32 &&& Int32.toUInt32 31)).toInt32 :: r) σ Q
  | .i2l => zk1 st fun x r => Z d m (i + 1) lv (.long x.toInt64 :: r) σ Q
  | .l2i => zk1l st fun x r => Z d m (i + 1) lv (.int x.toInt32 :: r) σ Q
  | .i2b => zk1 st fun x r => Z d m (i + 1) lv (.int x.toInt8.toInt32 :: r) σ Q
  | .i2s => zk1 st fun x r => Z d m (i + 1) lv (.int x.toInt16.toInt32 :: r) σ Q
  | .ladd => zk2l st fun x y r => Z d m (i + 1) lv (.long (x + y) :: r) σ Q
  | .lmul => zk2l st fun x y r => Z d m (i + 1) lv (.long (x * y) :: r) σ Q
  | .land => zk2l st fun x y r => Z d m (i + 1) lv (.long (x &&& y) :: r) σ Q
  | .lor => zk2l st fun x y r => Z d m (i + 1) lv (.long (x ||| y) :: r) σ Q
  | .lshl => zkil st fun x y r => Z d m (i + 1) lv (.long (x <<< (y.toInt64 &&& 63)) :: r) σ Q
  | .lshr => zkil st fun x y r => Z d m (i + 1) lv (.long (x >>> (y.toInt64 &&& 63)) :: r) σ Q
  | .lushr => zkil st fun x y r => Z d m (i + 1) lv (.long (x.toUInt64 >>> (y.toInt64.toUInt64 &&& Int64.toUInt64 63)).toInt64 :: r) σ Q
  | .lcmp => zk2l st fun x y r => Z d m (i + 1) lv (.int (lg_cmp x y) :: r) σ Q
  | .dup => zkv st fun v r => v.category = 1 ∧ Z d m (i + 1) lv (v :: v :: r) σ Q
  | .dup2 => zkv st fun v r => zkv r fun w q => v.category = 1 ∧ w.category = 1 ∧ Z d m (i + 1) lv (v :: w :: v :: w :: q) σ Q
  | .pop => zkv st fun v r => v.category = 1 ∧ Z d m (i + 1) lv r σ Q
  | .getfield _ => zkr st fun b r => ∃ v, zf σ b (zL L 0) (zL L 1) = some v ∧ Z d m (i + 1) lv (v :: r) σ Q
  | .putfield _ => zkir st fun x b r => zfi b (zL L 0) (zL L 1) = true ∧ (zfd (zL L 0) (zL L 1) = "I" ∨ (zfd (zL L 0) (zL L 1) = "Z" ∧ (x = 0 ∨ x = 1))) ∧ Z d m (i + 1) lv r (zu σ b (zL L 1) x) Q
  | .iaload => zkir st fun x b r => ∃ n, zLy[b]? = some (.inl n) ∧ vp_in x n ∧ Z d m (i + 1) lv (.int (σ b x.toNatClampNeg) :: r) σ Q
  | .iastore => zkiir st fun x j b r => ∃ n, zLy[b]? = some (.inl n) ∧ vp_in j n ∧ Z d m (i + 1) lv r (zu σ b j.toNatClampNeg x) Q
  | .aaload => zkir st fun x b r => ∃ rs q, zLy[b]? = some (.inr (.inr rs)) ∧ vp_in x rs.length ∧ rs[x.toNatClampNeg]? = some q ∧ Z d m (i + 1) lv (.ref q :: r) σ Q
  | .arraylength => zkr st fun b r => ∃ n, (zLy[b]? = some (.inl n) ∨ ∃ rs, zLy[b]? = some (.inr (.inr rs)) ∧ rs.length = n) ∧ Z d m (i + 1) lv (.int (Int32.ofNat n) :: r) σ Q
  | .goto _ => Z d m (zL L 0) lv st σ Q
  | .ifCond c _ => zk1 st fun x r => (zcc c x 0 → Z d m (zL L 0) lv r σ Q) ∧ (¬ zcc c x 0 → Z d m (i + 1) lv r σ Q)
  | .if_icmp c _ => zk2 st fun x y r => (zcc c x y → Z d m (zL L 0) lv r σ Q) ∧ (¬ zcc c x y → Z d m (i + 1) lv r σ Q)
  | .ifnull _ => zkv st fun v r => (v = .null → Z d m (zL L 0) lv r σ Q) ∧ (∀ b, v = .ref b → Z d m (i + 1) lv r σ Q) ∧ zref v
  | .ifnonnull _ => zkv st fun v r => (v = .null → Z d m (i + 1) lv r σ Q) ∧ (∀ b, v = .ref b → Z d m (zL L 0) lv r σ Q) ∧ zref v
  | .tableswitch _ lo hi _ => zk1 st fun x r => ((x.toInt < lo ∨ hi < x.toInt) → Z d m (zL L 0) lv r σ Q) ∧ (¬ x.toInt < lo → ¬ hi < x.toInt → Z d m (zL L (1 + (x.toInt - lo).toNat)) lv r σ Q)
  | .ireturn => zk1 st fun x r => r = [] ∧ (zr m = some .int ∨ (zr m = some .boolean ∧ (x = 0 ∨ x = 1))) ∧ Q (some (.int x)) σ
  | .areturn => zkv st fun v r => r = [] ∧ zref v ∧ zr m = some (.object RX0) ∧ Q (some v) σ
  | .return_ => st = [] ∧ zr m = none ∧ Q none σ
  | .invokevirtual _ => zcallV Z d m i (zL L 0) (znp (zL L 0)) lv st σ Q
  | .invokestatic _ => if zL L 0 = 999 then zcopy Z d m i lv st σ Q else zcall Z d m i (zL L 0) (znp (zL L 0)) lv st σ Q
  | _ => False
def zst (Z : zT) : zT := fun d m i lv st σ Q => match (zP m)[i]? with
  | some (_, I, L) => zI Z d m i I L lv st σ Q
  | none => False
def zCl (Z : zT) : Prop := ∀ d m i lv st σ Q, zst Z d m i lv st σ Q → Z d m i lv st σ Q
def ZC : zT := fun d m i lv st σ Q => ∀ Z : zT, zCl Z → Z d m i lv st σ Q
end
section
/-! the rows are the bytes', their links are words of the tables: decided by the kernel, a method a row -/
def zw (k : Nat) : Option Jvm.Cond := lw_tbl[k]?
def zfl (ci k : Nat) (own : String) (idx : Nat) : Option Jvm.Cond := match vwCl[ci]? with
  | some q => if k < q.2.2 then some (.fieldLink own idx (q.2.1 k).1 (q.2.1 k).2.1 (q.2.1 k).2.2.1) else none
  | none => none
def zfin (ci k : Nat) : Bool := match vwCl[ci]? with
  | some q => (q.2.1 k).2.2.2
  | none => true
/-- how long an instruction is -/
def zn (I : Instr) (L : List Nat) : Nat := match I with
  | .bipush _ | .ldc _ | .iload _ | .lload _ | .aload _ | .istore _ | .astore _ => 2
  | .sipush _ | .ldc_w _ | .ldc2_w _ | .iinc _ _ | .getfield _ | .putfield _ | .goto _ | .ifCond _ _ | .if_icmp _ _ | .ifnull _ | .ifnonnull _ | .invokevirtual _ | .invokestatic _ => 3
  | .tableswitch _ _ _ _ => L.getLastD 0
  | _ => 1
/-- does the next row follow? -/
def zfall (I : Instr) : Bool := match I with
  | .goto _ | .tableswitch _ _ _ _ | .ireturn | .areturn | .return_ => false
  | _ => true
def zlk (m pc : Nat) (I : Instr) (L : List Nat) : Bool := match I with
  | .istore k => decide (k < zl m)
  | .istore_n k => decide (k.val < zl m)
  | .astore k => decide (k < zl m)
  | .astore_n k => decide (k.val < zl m)
  | .iinc k _ => decide (k < zl m)
  | .ldc i => decide (zw (zL L 2) = some (.constant (zo m) i (Int32.ofInt (zldc L))))
  | .ldc_w i => decide (zw (zL L 2) = some (.constant (zo m) i (Int32.ofInt (zldc L))))
  | .ldc2_w i => decide (zw (zL L 2) = some (.constantLong (zo m) i (Int64.ofInt (zldc L))))
  | .getfield i => decide (zfl (zL L 0) (zL L 1) (zo m) i ≠ none) && decide (zw (zL L 2) = zfl (zL L 0) (zL L 1) (zo m) i)
  | .putfield i => decide (zfl (zL L 0) (zL L 1) (zo m) i ≠ none) && decide (zw (zL L 2) = zfl (zL L 0) (zL L 1) (zo m) i) && !zfin (zL L 0) (zL L 1)
  | .goto off | .ifCond _ off | .if_icmp _ off | .ifnull off | .ifnonnull off => decide ((pc : Int) + off = (zpc m (zL L 0) : Int))
  | .tableswitch dflt lo hi offs => decide ((pc : Int) + dflt = (zpc m (zL L 0) : Int)) && (List.range (hi - lo + 1).toNat).all fun j => match offs[j]? with
    | some off => decide ((pc : Int) + off = (zpc m (zL L (1 + j)) : Int))
    | none => false
  | .invokevirtual i => decide (zw (zL L 1) = some (.methodLink (zo m) i (zy (zL L 0)))) && decide (zw (zL L 2) = some (.instanceMethod (zy (zL L 0)))) && decide (zw (zL L 3) = some (.selects (zo (zL L 0)) (zy (zL L 0)) (zy (zL L 0)))) && decide (zL L 0 < 180) && decide (zci (zL L 0) < 5)
  | .invokestatic i => if zL L 0 = 999 then decide (zw (zL L 1) = some (.methodLink (zo m) i arraycopyName)) && decide (zw (zL L 2) = some (.native arraycopyName)) && decide (zw (zL L 3) = some (.static arraycopyName)) && decide (zw (zL L 4) = some (.initialized "java/lang/System"))
    else decide (zw (zL L 1) = some (.methodLink (zo m) i (zy (zL L 0))) ∨ zw (zL L 1) = some (.methodLinkNest (zo m) i (zy (zL L 0)) "ToothStones")) && decide (zw (zL L 2) = some (.static (zy (zL L 0)))) && decide (zL L 0 < 180)
  | _ => true
def zok (m i : Nat) (q : zR) : Bool := decide (decode (zb m) q.1 = .ok (q.2.1, zn q.2.1 q.2.2)) && (!zfall q.2.1 || decide (zpc m (i + 1) = q.1 + zn q.2.1 q.2.2)) && zlk m q.1 q.2.1 q.2.2
def zokM (m : Nat) : Bool := (List.range (zP m).length).all fun i => match (zP m)[i]? with
  | some q => zok m i q
  | none => false
def zokN (m : Nat) : Bool := decide (zw (zme m).2.2.2.2.2.2.1 = some (.code (zy m) (zb m) (zl m) (zr m))) && decide (zw (zme m).2.2.2.2.2.2.2 = some (.initialized (zo m))) && plainFor (zy m) && decide ((zo m) ≠ "java/lang/invoke/MethodHandle" ∧ (zo m) ≠ "java/lang/invoke/VarHandle" ∧ (parseMethodDescriptor (zy m).desc).map (fun d => d.parameters.length) = some (znp m)) && decide (zl m ≤ 13) && (zci m == 99 || decide ((vwCl[zci m]?).map (fun q => q.1) = some (zo m)))
set_option maxRecDepth 100000 in
theorem zokN_0 : zokN 0 = true := by decide +kernel
set_option maxRecDepth 100000 in
theorem zokN_1 : zokN 1 = true := by decide +kernel
set_option maxRecDepth 100000 in
theorem zokN_2 : zokN 2 = true := by decide +kernel
set_option maxRecDepth 100000 in
theorem zokN_3 : zokN 3 = true := by decide +kernel
set_option maxRecDepth 100000 in
theorem zokN_4 : zokN 4 = true := by decide +kernel
set_option maxRecDepth 100000 in
theorem zokN_5 : zokN 5 = true := by decide +kernel
set_option maxRecDepth 100000 in
theorem zokN_6 : zokN 6 = true := by decide +kernel
set_option maxRecDepth 100000 in
theorem zokN_7 : zokN 7 = true := by decide +kernel
set_option maxRecDepth 100000 in
theorem zokN_8 : zokN 8 = true := by decide +kernel
set_option maxRecDepth 100000 in
theorem zokN_9 : zokN 9 = true := by decide +kernel
set_option maxRecDepth 100000 in
theorem zokN_10 : zokN 10 = true := by decide +kernel
set_option maxRecDepth 100000 in
theorem zokN_11 : zokN 11 = true := by decide +kernel
set_option maxRecDepth 100000 in
theorem zokN_12 : zokN 12 = true := by decide +kernel
set_option maxRecDepth 100000 in
theorem zokN_13 : zokN 13 = true := by decide +kernel
set_option maxRecDepth 100000 in
theorem zokN_14 : zokN 14 = true := by decide +kernel
set_option maxRecDepth 100000 in
theorem zokN_15 : zokN 15 = true := by decide +kernel
set_option maxRecDepth 100000 in
theorem zokN_16 : zokN 16 = true := by decide +kernel
set_option maxRecDepth 100000 in
theorem zokN_17 : zokN 17 = true := by decide +kernel
set_option maxRecDepth 100000 in
theorem zokN_18 : zokN 18 = true := by decide +kernel
set_option maxRecDepth 100000 in
theorem zokN_19 : zokN 19 = true := by decide +kernel
set_option maxRecDepth 100000 in
theorem zokN_20 : zokN 20 = true := by decide +kernel
set_option maxRecDepth 100000 in
theorem zokN_21 : zokN 21 = true := by decide +kernel
set_option maxRecDepth 100000 in
theorem zokN_22 : zokN 22 = true := by decide +kernel
set_option maxRecDepth 100000 in
theorem zokN_23 : zokN 23 = true := by decide +kernel
set_option maxRecDepth 100000 in
theorem zokN_24 : zokN 24 = true := by decide +kernel
set_option maxRecDepth 100000 in
theorem zokN_25 : zokN 25 = true := by decide +kernel
set_option maxRecDepth 100000 in
theorem zokN_26 : zokN 26 = true := by decide +kernel
set_option maxRecDepth 100000 in
theorem zokN_27 : zokN 27 = true := by decide +kernel
set_option maxRecDepth 100000 in
theorem zokN_28 : zokN 28 = true := by decide +kernel
set_option maxRecDepth 100000 in
theorem zokN_29 : zokN 29 = true := by decide +kernel
set_option maxRecDepth 100000 in
theorem zokN_30 : zokN 30 = true := by decide +kernel
set_option maxRecDepth 100000 in
theorem zokN_31 : zokN 31 = true := by decide +kernel
set_option maxRecDepth 100000 in
theorem zokN_32 : zokN 32 = true := by decide +kernel
set_option maxRecDepth 100000 in
theorem zokN_33 : zokN 33 = true := by decide +kernel
set_option maxRecDepth 100000 in
theorem zokN_34 : zokN 34 = true := by decide +kernel
set_option maxRecDepth 100000 in
theorem zokN_35 : zokN 35 = true := by decide +kernel
set_option maxRecDepth 100000 in
theorem zokN_36 : zokN 36 = true := by decide +kernel
set_option maxRecDepth 100000 in
theorem zokN_37 : zokN 37 = true := by decide +kernel
set_option maxRecDepth 100000 in
theorem zokN_38 : zokN 38 = true := by decide +kernel
set_option maxRecDepth 100000 in
theorem zokN_39 : zokN 39 = true := by decide +kernel
set_option maxRecDepth 100000 in
theorem zokN_40 : zokN 40 = true := by decide +kernel
set_option maxRecDepth 100000 in
theorem zokN_41 : zokN 41 = true := by decide +kernel
set_option maxRecDepth 100000 in
theorem zokN_42 : zokN 42 = true := by decide +kernel
set_option maxRecDepth 100000 in
theorem zokN_43 : zokN 43 = true := by decide +kernel
set_option maxRecDepth 100000 in
theorem zokN_44 : zokN 44 = true := by decide +kernel
set_option maxRecDepth 100000 in
theorem zokN_45 : zokN 45 = true := by decide +kernel
set_option maxRecDepth 100000 in
theorem zokN_46 : zokN 46 = true := by decide +kernel
set_option maxRecDepth 100000 in
theorem zokN_47 : zokN 47 = true := by decide +kernel
set_option maxRecDepth 100000 in
theorem zokN_48 : zokN 48 = true := by decide +kernel
set_option maxRecDepth 100000 in
theorem zokN_49 : zokN 49 = true := by decide +kernel
set_option maxRecDepth 100000 in
theorem zokN_50 : zokN 50 = true := by decide +kernel
set_option maxRecDepth 100000 in
theorem zokN_51 : zokN 51 = true := by decide +kernel
set_option maxRecDepth 100000 in
theorem zokN_52 : zokN 52 = true := by decide +kernel
set_option maxRecDepth 100000 in
theorem zokN_53 : zokN 53 = true := by decide +kernel
set_option maxRecDepth 100000 in
theorem zokN_54 : zokN 54 = true := by decide +kernel
set_option maxRecDepth 100000 in
theorem zokN_55 : zokN 55 = true := by decide +kernel
set_option maxRecDepth 100000 in
theorem zokN_56 : zokN 56 = true := by decide +kernel
set_option maxRecDepth 100000 in
theorem zokN_57 : zokN 57 = true := by decide +kernel
set_option maxRecDepth 100000 in
theorem zokN_58 : zokN 58 = true := by decide +kernel
set_option maxRecDepth 100000 in
theorem zokN_59 : zokN 59 = true := by decide +kernel
set_option maxRecDepth 100000 in
theorem zokN_60 : zokN 60 = true := by decide +kernel
set_option maxRecDepth 100000 in
theorem zokN_61 : zokN 61 = true := by decide +kernel
set_option maxRecDepth 100000 in
theorem zokN_62 : zokN 62 = true := by decide +kernel
set_option maxRecDepth 100000 in
theorem zokN_63 : zokN 63 = true := by decide +kernel
set_option maxRecDepth 100000 in
theorem zokN_64 : zokN 64 = true := by decide +kernel
set_option maxRecDepth 100000 in
theorem zokN_65 : zokN 65 = true := by decide +kernel
set_option maxRecDepth 100000 in
theorem zokN_66 : zokN 66 = true := by decide +kernel
set_option maxRecDepth 100000 in
theorem zokN_67 : zokN 67 = true := by decide +kernel
set_option maxRecDepth 100000 in
theorem zokN_68 : zokN 68 = true := by decide +kernel
set_option maxRecDepth 100000 in
theorem zokN_69 : zokN 69 = true := by decide +kernel
set_option maxRecDepth 100000 in
theorem zokN_70 : zokN 70 = true := by decide +kernel
set_option maxRecDepth 100000 in
theorem zokN_71 : zokN 71 = true := by decide +kernel
set_option maxRecDepth 100000 in
theorem zokN_72 : zokN 72 = true := by decide +kernel
set_option maxRecDepth 100000 in
theorem zokN_73 : zokN 73 = true := by decide +kernel
set_option maxRecDepth 100000 in
theorem zokN_74 : zokN 74 = true := by decide +kernel
set_option maxRecDepth 100000 in
theorem zokN_75 : zokN 75 = true := by decide +kernel
set_option maxRecDepth 100000 in
theorem zokN_76 : zokN 76 = true := by decide +kernel
set_option maxRecDepth 100000 in
theorem zokN_77 : zokN 77 = true := by decide +kernel
set_option maxRecDepth 100000 in
theorem zokN_78 : zokN 78 = true := by decide +kernel
set_option maxRecDepth 100000 in
theorem zokN_79 : zokN 79 = true := by decide +kernel
set_option maxRecDepth 100000 in
theorem zokN_80 : zokN 80 = true := by decide +kernel
set_option maxRecDepth 100000 in
theorem zokN_81 : zokN 81 = true := by decide +kernel
set_option maxRecDepth 100000 in
theorem zokN_82 : zokN 82 = true := by decide +kernel
set_option maxRecDepth 100000 in
theorem zokN_83 : zokN 83 = true := by decide +kernel
set_option maxRecDepth 100000 in
theorem zokN_84 : zokN 84 = true := by decide +kernel
set_option maxRecDepth 100000 in
theorem zokN_85 : zokN 85 = true := by decide +kernel
set_option maxRecDepth 100000 in
theorem zokN_86 : zokN 86 = true := by decide +kernel
set_option maxRecDepth 100000 in
theorem zokN_87 : zokN 87 = true := by decide +kernel
set_option maxRecDepth 100000 in
theorem zokN_88 : zokN 88 = true := by decide +kernel
set_option maxRecDepth 100000 in
theorem zokN_89 : zokN 89 = true := by decide +kernel
set_option maxRecDepth 100000 in
theorem zokN_90 : zokN 90 = true := by decide +kernel
set_option maxRecDepth 100000 in
theorem zokN_91 : zokN 91 = true := by decide +kernel
set_option maxRecDepth 100000 in
theorem zokN_92 : zokN 92 = true := by decide +kernel
set_option maxRecDepth 100000 in
theorem zokN_93 : zokN 93 = true := by decide +kernel
set_option maxRecDepth 100000 in
theorem zokN_94 : zokN 94 = true := by decide +kernel
set_option maxRecDepth 100000 in
theorem zokN_95 : zokN 95 = true := by decide +kernel
set_option maxRecDepth 100000 in
theorem zokN_96 : zokN 96 = true := by decide +kernel
set_option maxRecDepth 100000 in
theorem zokN_97 : zokN 97 = true := by decide +kernel
set_option maxRecDepth 100000 in
theorem zokN_98 : zokN 98 = true := by decide +kernel
set_option maxRecDepth 100000 in
theorem zokN_99 : zokN 99 = true := by decide +kernel
set_option maxRecDepth 100000 in
theorem zokN_100 : zokN 100 = true := by decide +kernel
set_option maxRecDepth 100000 in
theorem zokN_101 : zokN 101 = true := by decide +kernel
set_option maxRecDepth 100000 in
theorem zokN_102 : zokN 102 = true := by decide +kernel
set_option maxRecDepth 100000 in
theorem zokN_103 : zokN 103 = true := by decide +kernel
set_option maxRecDepth 100000 in
theorem zokN_104 : zokN 104 = true := by decide +kernel
set_option maxRecDepth 100000 in
theorem zokN_105 : zokN 105 = true := by decide +kernel
set_option maxRecDepth 100000 in
theorem zokN_106 : zokN 106 = true := by decide +kernel
set_option maxRecDepth 100000 in
theorem zokN_107 : zokN 107 = true := by decide +kernel
set_option maxRecDepth 100000 in
theorem zokN_108 : zokN 108 = true := by decide +kernel
set_option maxRecDepth 100000 in
theorem zokN_109 : zokN 109 = true := by decide +kernel
set_option maxRecDepth 100000 in
theorem zokN_110 : zokN 110 = true := by decide +kernel
set_option maxRecDepth 100000 in
theorem zokN_111 : zokN 111 = true := by decide +kernel
set_option maxRecDepth 100000 in
theorem zokN_112 : zokN 112 = true := by decide +kernel
set_option maxRecDepth 100000 in
theorem zokN_113 : zokN 113 = true := by decide +kernel
set_option maxRecDepth 100000 in
theorem zokN_114 : zokN 114 = true := by decide +kernel
set_option maxRecDepth 100000 in
theorem zokN_115 : zokN 115 = true := by decide +kernel
set_option maxRecDepth 100000 in
theorem zokN_116 : zokN 116 = true := by decide +kernel
set_option maxRecDepth 100000 in
theorem zokN_117 : zokN 117 = true := by decide +kernel
set_option maxRecDepth 100000 in
theorem zokN_118 : zokN 118 = true := by decide +kernel
set_option maxRecDepth 100000 in
theorem zokN_119 : zokN 119 = true := by decide +kernel
set_option maxRecDepth 100000 in
theorem zokN_120 : zokN 120 = true := by decide +kernel
set_option maxRecDepth 100000 in
theorem zokN_121 : zokN 121 = true := by decide +kernel
set_option maxRecDepth 100000 in
theorem zokN_122 : zokN 122 = true := by decide +kernel
set_option maxRecDepth 100000 in
theorem zokN_123 : zokN 123 = true := by decide +kernel
set_option maxRecDepth 100000 in
theorem zokN_124 : zokN 124 = true := by decide +kernel
set_option maxRecDepth 100000 in
theorem zokN_125 : zokN 125 = true := by decide +kernel
set_option maxRecDepth 100000 in
theorem zokN_126 : zokN 126 = true := by decide +kernel
set_option maxRecDepth 100000 in
theorem zokN_127 : zokN 127 = true := by decide +kernel
set_option maxRecDepth 100000 in
theorem zokN_128 : zokN 128 = true := by decide +kernel
set_option maxRecDepth 100000 in
theorem zokN_129 : zokN 129 = true := by decide +kernel
set_option maxRecDepth 100000 in
theorem zokN_130 : zokN 130 = true := by decide +kernel
set_option maxRecDepth 100000 in
theorem zokN_131 : zokN 131 = true := by decide +kernel
set_option maxRecDepth 100000 in
theorem zokN_132 : zokN 132 = true := by decide +kernel
set_option maxRecDepth 100000 in
theorem zokN_133 : zokN 133 = true := by decide +kernel
set_option maxRecDepth 100000 in
theorem zokN_134 : zokN 134 = true := by decide +kernel
set_option maxRecDepth 100000 in
theorem zokN_135 : zokN 135 = true := by decide +kernel
set_option maxRecDepth 100000 in
theorem zokN_136 : zokN 136 = true := by decide +kernel
set_option maxRecDepth 100000 in
theorem zokN_137 : zokN 137 = true := by decide +kernel
set_option maxRecDepth 100000 in
theorem zokN_138 : zokN 138 = true := by decide +kernel
set_option maxRecDepth 100000 in
theorem zokN_139 : zokN 139 = true := by decide +kernel
set_option maxRecDepth 100000 in
theorem zokN_140 : zokN 140 = true := by decide +kernel
set_option maxRecDepth 100000 in
theorem zokN_141 : zokN 141 = true := by decide +kernel
set_option maxRecDepth 100000 in
theorem zokN_142 : zokN 142 = true := by decide +kernel
set_option maxRecDepth 100000 in
theorem zokN_143 : zokN 143 = true := by decide +kernel
set_option maxRecDepth 100000 in
theorem zokN_144 : zokN 144 = true := by decide +kernel
set_option maxRecDepth 100000 in
theorem zokN_145 : zokN 145 = true := by decide +kernel
set_option maxRecDepth 100000 in
theorem zokN_146 : zokN 146 = true := by decide +kernel
set_option maxRecDepth 100000 in
theorem zokN_147 : zokN 147 = true := by decide +kernel
set_option maxRecDepth 100000 in
theorem zokN_148 : zokN 148 = true := by decide +kernel
set_option maxRecDepth 100000 in
theorem zokN_149 : zokN 149 = true := by decide +kernel
set_option maxRecDepth 100000 in
theorem zokN_150 : zokN 150 = true := by decide +kernel
set_option maxRecDepth 100000 in
theorem zokN_151 : zokN 151 = true := by decide +kernel
set_option maxRecDepth 100000 in
theorem zokN_152 : zokN 152 = true := by decide +kernel
set_option maxRecDepth 100000 in
theorem zokN_153 : zokN 153 = true := by decide +kernel
set_option maxRecDepth 100000 in
theorem zokN_154 : zokN 154 = true := by decide +kernel
set_option maxRecDepth 100000 in
theorem zokN_155 : zokN 155 = true := by decide +kernel
set_option maxRecDepth 100000 in
theorem zokN_156 : zokN 156 = true := by decide +kernel
set_option maxRecDepth 100000 in
theorem zokN_157 : zokN 157 = true := by decide +kernel
set_option maxRecDepth 100000 in
theorem zokN_158 : zokN 158 = true := by decide +kernel
set_option maxRecDepth 100000 in
theorem zokN_159 : zokN 159 = true := by decide +kernel
set_option maxRecDepth 100000 in
theorem zokN_160 : zokN 160 = true := by decide +kernel
set_option maxRecDepth 100000 in
theorem zokN_161 : zokN 161 = true := by decide +kernel
set_option maxRecDepth 100000 in
theorem zokN_162 : zokN 162 = true := by decide +kernel
set_option maxRecDepth 100000 in
theorem zokN_163 : zokN 163 = true := by decide +kernel
set_option maxRecDepth 100000 in
theorem zokN_164 : zokN 164 = true := by decide +kernel
set_option maxRecDepth 100000 in
theorem zokN_165 : zokN 165 = true := by decide +kernel
set_option maxRecDepth 100000 in
theorem zokN_166 : zokN 166 = true := by decide +kernel
set_option maxRecDepth 100000 in
theorem zokN_167 : zokN 167 = true := by decide +kernel
set_option maxRecDepth 100000 in
theorem zokN_168 : zokN 168 = true := by decide +kernel
set_option maxRecDepth 100000 in
theorem zokN_169 : zokN 169 = true := by decide +kernel
set_option maxRecDepth 100000 in
theorem zokN_170 : zokN 170 = true := by decide +kernel
set_option maxRecDepth 100000 in
theorem zokN_171 : zokN 171 = true := by decide +kernel
set_option maxRecDepth 100000 in
theorem zokN_172 : zokN 172 = true := by decide +kernel
set_option maxRecDepth 100000 in
theorem zokN_173 : zokN 173 = true := by decide +kernel
set_option maxRecDepth 100000 in
theorem zokN_174 : zokN 174 = true := by decide +kernel
set_option maxRecDepth 100000 in
theorem zokN_175 : zokN 175 = true := by decide +kernel
set_option maxRecDepth 100000 in
theorem zokN_176 : zokN 176 = true := by decide +kernel
set_option maxRecDepth 100000 in
theorem zokN_177 : zokN 177 = true := by decide +kernel
set_option maxRecDepth 100000 in
theorem zokN_178 : zokN 178 = true := by decide +kernel
set_option maxRecDepth 100000 in
theorem zokN_179 : zokN 179 = true := by decide +kernel
set_option maxRecDepth 100000 in
theorem zokM_0 : zokM 0 = true := by decide +kernel
set_option maxRecDepth 100000 in
theorem zokM_1 : zokM 1 = true := by decide +kernel
set_option maxRecDepth 100000 in
theorem zokM_2 : zokM 2 = true := by decide +kernel
set_option maxRecDepth 100000 in
theorem zokM_3 : zokM 3 = true := by decide +kernel
set_option maxRecDepth 100000 in
theorem zokM_4 : zokM 4 = true := by decide +kernel
set_option maxRecDepth 100000 in
theorem zokM_5 : zokM 5 = true := by decide +kernel
set_option maxRecDepth 100000 in
theorem zokM_6 : zokM 6 = true := by decide +kernel
set_option maxRecDepth 100000 in
theorem zokM_7 : zokM 7 = true := by decide +kernel
set_option maxRecDepth 100000 in
theorem zokM_8 : zokM 8 = true := by decide +kernel
set_option maxRecDepth 100000 in
theorem zokM_9 : zokM 9 = true := by decide +kernel
set_option maxRecDepth 100000 in
theorem zokM_10 : zokM 10 = true := by decide +kernel
set_option maxRecDepth 100000 in
theorem zokM_11 : zokM 11 = true := by decide +kernel
set_option maxRecDepth 100000 in
theorem zokM_12 : zokM 12 = true := by decide +kernel
set_option maxRecDepth 100000 in
theorem zokM_13 : zokM 13 = true := by decide +kernel
set_option maxRecDepth 100000 in
theorem zokM_14 : zokM 14 = true := by decide +kernel
set_option maxRecDepth 100000 in
theorem zokM_15 : zokM 15 = true := by decide +kernel
set_option maxRecDepth 100000 in
theorem zokM_16 : zokM 16 = true := by decide +kernel
set_option maxRecDepth 100000 in
theorem zokM_17 : zokM 17 = true := by decide +kernel
set_option maxRecDepth 100000 in
theorem zokM_18 : zokM 18 = true := by decide +kernel
set_option maxRecDepth 100000 in
theorem zokM_19 : zokM 19 = true := by decide +kernel
set_option maxRecDepth 100000 in
theorem zokM_20 : zokM 20 = true := by decide +kernel
set_option maxRecDepth 100000 in
theorem zokM_21 : zokM 21 = true := by decide +kernel
set_option maxRecDepth 100000 in
theorem zokM_22 : zokM 22 = true := by decide +kernel
set_option maxRecDepth 100000 in
theorem zokM_23 : zokM 23 = true := by decide +kernel
set_option maxRecDepth 100000 in
theorem zokM_24 : zokM 24 = true := by decide +kernel
set_option maxRecDepth 100000 in
theorem zokM_25 : zokM 25 = true := by decide +kernel
set_option maxRecDepth 100000 in
theorem zokM_26 : zokM 26 = true := by decide +kernel
set_option maxRecDepth 100000 in
theorem zokM_27 : zokM 27 = true := by decide +kernel
set_option maxRecDepth 100000 in
theorem zokM_28 : zokM 28 = true := by decide +kernel
set_option maxRecDepth 100000 in
theorem zokM_29 : zokM 29 = true := by decide +kernel
set_option maxRecDepth 100000 in
theorem zokM_30 : zokM 30 = true := by decide +kernel
set_option maxRecDepth 100000 in
theorem zokM_31 : zokM 31 = true := by decide +kernel
set_option maxRecDepth 100000 in
theorem zokM_32 : zokM 32 = true := by decide +kernel
set_option maxRecDepth 100000 in
theorem zokM_33 : zokM 33 = true := by decide +kernel
set_option maxRecDepth 100000 in
theorem zokM_34 : zokM 34 = true := by decide +kernel
set_option maxRecDepth 100000 in
theorem zokM_35 : zokM 35 = true := by decide +kernel
set_option maxRecDepth 100000 in
theorem zokM_36 : zokM 36 = true := by decide +kernel
set_option maxRecDepth 100000 in
theorem zokM_37 : zokM 37 = true := by decide +kernel
set_option maxRecDepth 100000 in
theorem zokM_38 : zokM 38 = true := by decide +kernel
set_option maxRecDepth 100000 in
theorem zokM_39 : zokM 39 = true := by decide +kernel
set_option maxRecDepth 100000 in
theorem zokM_40 : zokM 40 = true := by decide +kernel
set_option maxRecDepth 100000 in
theorem zokM_41 : zokM 41 = true := by decide +kernel
set_option maxRecDepth 100000 in
theorem zokM_42 : zokM 42 = true := by decide +kernel
set_option maxRecDepth 100000 in
theorem zokM_43 : zokM 43 = true := by decide +kernel
set_option maxRecDepth 100000 in
theorem zokM_44 : zokM 44 = true := by decide +kernel
set_option maxRecDepth 100000 in
theorem zokM_45 : zokM 45 = true := by decide +kernel
set_option maxRecDepth 100000 in
theorem zokM_46 : zokM 46 = true := by decide +kernel
set_option maxRecDepth 100000 in
theorem zokM_47 : zokM 47 = true := by decide +kernel
set_option maxRecDepth 100000 in
theorem zokM_48 : zokM 48 = true := by decide +kernel
set_option maxRecDepth 100000 in
theorem zokM_49 : zokM 49 = true := by decide +kernel
set_option maxRecDepth 100000 in
theorem zokM_50 : zokM 50 = true := by decide +kernel
set_option maxRecDepth 100000 in
theorem zokM_51 : zokM 51 = true := by decide +kernel
set_option maxRecDepth 100000 in
theorem zokM_52 : zokM 52 = true := by decide +kernel
set_option maxRecDepth 100000 in
theorem zokM_53 : zokM 53 = true := by decide +kernel
set_option maxRecDepth 100000 in
theorem zokM_54 : zokM 54 = true := by decide +kernel
set_option maxRecDepth 100000 in
theorem zokM_55 : zokM 55 = true := by decide +kernel
set_option maxRecDepth 100000 in
theorem zokM_56 : zokM 56 = true := by decide +kernel
set_option maxRecDepth 100000 in
theorem zokM_57 : zokM 57 = true := by decide +kernel
set_option maxRecDepth 100000 in
theorem zokM_58 : zokM 58 = true := by decide +kernel
set_option maxRecDepth 100000 in
theorem zokM_59 : zokM 59 = true := by decide +kernel
set_option maxRecDepth 100000 in
theorem zokM_60 : zokM 60 = true := by decide +kernel
set_option maxRecDepth 100000 in
theorem zokM_61 : zokM 61 = true := by decide +kernel
set_option maxRecDepth 100000 in
theorem zokM_62 : zokM 62 = true := by decide +kernel
set_option maxRecDepth 100000 in
theorem zokM_63 : zokM 63 = true := by decide +kernel
set_option maxRecDepth 100000 in
theorem zokM_64 : zokM 64 = true := by decide +kernel
set_option maxRecDepth 100000 in
theorem zokM_65 : zokM 65 = true := by decide +kernel
set_option maxRecDepth 100000 in
theorem zokM_66 : zokM 66 = true := by decide +kernel
set_option maxRecDepth 100000 in
theorem zokM_67 : zokM 67 = true := by decide +kernel
set_option maxRecDepth 100000 in
theorem zokM_68 : zokM 68 = true := by decide +kernel
set_option maxRecDepth 100000 in
theorem zokM_69 : zokM 69 = true := by decide +kernel
set_option maxRecDepth 100000 in
theorem zokM_70 : zokM 70 = true := by decide +kernel
set_option maxRecDepth 100000 in
theorem zokM_71 : zokM 71 = true := by decide +kernel
set_option maxRecDepth 100000 in
theorem zokM_72 : zokM 72 = true := by decide +kernel
set_option maxRecDepth 100000 in
theorem zokM_73 : zokM 73 = true := by decide +kernel
set_option maxRecDepth 100000 in
theorem zokM_74 : zokM 74 = true := by decide +kernel
set_option maxRecDepth 100000 in
theorem zokM_75 : zokM 75 = true := by decide +kernel
set_option maxRecDepth 100000 in
theorem zokM_76 : zokM 76 = true := by decide +kernel
set_option maxRecDepth 100000 in
theorem zokM_77 : zokM 77 = true := by decide +kernel
set_option maxRecDepth 100000 in
theorem zokM_78 : zokM 78 = true := by decide +kernel
set_option maxRecDepth 100000 in
theorem zokM_79 : zokM 79 = true := by decide +kernel
set_option maxRecDepth 100000 in
theorem zokM_80 : zokM 80 = true := by decide +kernel
set_option maxRecDepth 100000 in
theorem zokM_81 : zokM 81 = true := by decide +kernel
set_option maxRecDepth 100000 in
theorem zokM_82 : zokM 82 = true := by decide +kernel
set_option maxRecDepth 100000 in
theorem zokM_83 : zokM 83 = true := by decide +kernel
set_option maxRecDepth 100000 in
theorem zokM_84 : zokM 84 = true := by decide +kernel
set_option maxRecDepth 100000 in
theorem zokM_85 : zokM 85 = true := by decide +kernel
set_option maxRecDepth 100000 in
theorem zokM_86 : zokM 86 = true := by decide +kernel
set_option maxRecDepth 100000 in
theorem zokM_87 : zokM 87 = true := by decide +kernel
set_option maxRecDepth 100000 in
theorem zokM_88 : zokM 88 = true := by decide +kernel
set_option maxRecDepth 100000 in
theorem zokM_89 : zokM 89 = true := by decide +kernel
set_option maxRecDepth 100000 in
theorem zokM_90 : zokM 90 = true := by decide +kernel
set_option maxRecDepth 100000 in
theorem zokM_91 : zokM 91 = true := by decide +kernel
set_option maxRecDepth 100000 in
theorem zokM_92 : zokM 92 = true := by decide +kernel
set_option maxRecDepth 100000 in
theorem zokM_93 : zokM 93 = true := by decide +kernel
set_option maxRecDepth 100000 in
theorem zokM_94 : zokM 94 = true := by decide +kernel
set_option maxRecDepth 100000 in
theorem zokM_95 : zokM 95 = true := by decide +kernel
set_option maxRecDepth 100000 in
theorem zokM_96 : zokM 96 = true := by decide +kernel
set_option maxRecDepth 100000 in
theorem zokM_97 : zokM 97 = true := by decide +kernel
set_option maxRecDepth 100000 in
theorem zokM_98 : zokM 98 = true := by decide +kernel
set_option maxRecDepth 100000 in
theorem zokM_99 : zokM 99 = true := by decide +kernel
set_option maxRecDepth 100000 in
theorem zokM_100 : zokM 100 = true := by decide +kernel
set_option maxRecDepth 100000 in
theorem zokM_101 : zokM 101 = true := by decide +kernel
set_option maxRecDepth 100000 in
theorem zokM_102 : zokM 102 = true := by decide +kernel
set_option maxRecDepth 100000 in
theorem zokM_103 : zokM 103 = true := by decide +kernel
set_option maxRecDepth 100000 in
theorem zokM_104 : zokM 104 = true := by decide +kernel
set_option maxRecDepth 100000 in
theorem zokM_105 : zokM 105 = true := by decide +kernel
set_option maxRecDepth 100000 in
theorem zokM_106 : zokM 106 = true := by decide +kernel
set_option maxRecDepth 100000 in
theorem zokM_107 : zokM 107 = true := by decide +kernel
set_option maxRecDepth 100000 in
theorem zokM_108 : zokM 108 = true := by decide +kernel
set_option maxRecDepth 100000 in
theorem zokM_109 : zokM 109 = true := by decide +kernel
set_option maxRecDepth 100000 in
theorem zokM_110 : zokM 110 = true := by decide +kernel
set_option maxRecDepth 100000 in
theorem zokM_111 : zokM 111 = true := by decide +kernel
set_option maxRecDepth 100000 in
theorem zokM_112 : zokM 112 = true := by decide +kernel
set_option maxRecDepth 100000 in
theorem zokM_113 : zokM 113 = true := by decide +kernel
set_option maxRecDepth 100000 in
theorem zokM_114 : zokM 114 = true := by decide +kernel
set_option maxRecDepth 100000 in
theorem zokM_115 : zokM 115 = true := by decide +kernel
set_option maxRecDepth 100000 in
theorem zokM_116 : zokM 116 = true := by decide +kernel
set_option maxRecDepth 100000 in
theorem zokM_117 : zokM 117 = true := by decide +kernel
set_option maxRecDepth 100000 in
theorem zokM_118 : zokM 118 = true := by decide +kernel
set_option maxRecDepth 100000 in
theorem zokM_119 : zokM 119 = true := by decide +kernel
set_option maxRecDepth 100000 in
theorem zokM_120 : zokM 120 = true := by decide +kernel
set_option maxRecDepth 100000 in
theorem zokM_121 : zokM 121 = true := by decide +kernel
set_option maxRecDepth 100000 in
theorem zokM_122 : zokM 122 = true := by decide +kernel
set_option maxRecDepth 100000 in
theorem zokM_123 : zokM 123 = true := by decide +kernel
set_option maxRecDepth 100000 in
theorem zokM_124 : zokM 124 = true := by decide +kernel
set_option maxRecDepth 100000 in
theorem zokM_125 : zokM 125 = true := by decide +kernel
set_option maxRecDepth 100000 in
theorem zokM_126 : zokM 126 = true := by decide +kernel
set_option maxRecDepth 100000 in
theorem zokM_127 : zokM 127 = true := by decide +kernel
set_option maxRecDepth 100000 in
theorem zokM_128 : zokM 128 = true := by decide +kernel
set_option maxRecDepth 100000 in
theorem zokM_129 : zokM 129 = true := by decide +kernel
set_option maxRecDepth 100000 in
theorem zokM_130 : zokM 130 = true := by decide +kernel
set_option maxRecDepth 100000 in
theorem zokM_131 : zokM 131 = true := by decide +kernel
set_option maxRecDepth 100000 in
theorem zokM_132 : zokM 132 = true := by decide +kernel
set_option maxRecDepth 100000 in
theorem zokM_133 : zokM 133 = true := by decide +kernel
set_option maxRecDepth 100000 in
theorem zokM_134 : zokM 134 = true := by decide +kernel
set_option maxRecDepth 100000 in
theorem zokM_135 : zokM 135 = true := by decide +kernel
set_option maxRecDepth 100000 in
theorem zokM_136 : zokM 136 = true := by decide +kernel
set_option maxRecDepth 100000 in
theorem zokM_137 : zokM 137 = true := by decide +kernel
set_option maxRecDepth 100000 in
theorem zokM_138 : zokM 138 = true := by decide +kernel
set_option maxRecDepth 100000 in
theorem zokM_139 : zokM 139 = true := by decide +kernel
set_option maxRecDepth 100000 in
theorem zokM_140 : zokM 140 = true := by decide +kernel
set_option maxRecDepth 100000 in
theorem zokM_141 : zokM 141 = true := by decide +kernel
set_option maxRecDepth 100000 in
theorem zokM_142 : zokM 142 = true := by decide +kernel
set_option maxRecDepth 100000 in
theorem zokM_143 : zokM 143 = true := by decide +kernel
set_option maxRecDepth 100000 in
theorem zokM_144 : zokM 144 = true := by decide +kernel
set_option maxRecDepth 100000 in
theorem zokM_145 : zokM 145 = true := by decide +kernel
set_option maxRecDepth 100000 in
theorem zokM_146 : zokM 146 = true := by decide +kernel
set_option maxRecDepth 100000 in
theorem zokM_147 : zokM 147 = true := by decide +kernel
set_option maxRecDepth 100000 in
theorem zokM_148 : zokM 148 = true := by decide +kernel
set_option maxRecDepth 100000 in
theorem zokM_149 : zokM 149 = true := by decide +kernel
set_option maxRecDepth 100000 in
theorem zokM_150 : zokM 150 = true := by decide +kernel
set_option maxRecDepth 100000 in
theorem zokM_151 : zokM 151 = true := by decide +kernel
set_option maxRecDepth 100000 in
theorem zokM_152 : zokM 152 = true := by decide +kernel
set_option maxRecDepth 100000 in
theorem zokM_153 : zokM 153 = true := by decide +kernel
set_option maxRecDepth 100000 in
theorem zokM_154 : zokM 154 = true := by decide +kernel
set_option maxRecDepth 100000 in
theorem zokM_155 : zokM 155 = true := by decide +kernel
set_option maxRecDepth 100000 in
theorem zokM_156 : zokM 156 = true := by decide +kernel
set_option maxRecDepth 100000 in
theorem zokM_157 : zokM 157 = true := by decide +kernel
set_option maxRecDepth 100000 in
theorem zokM_158 : zokM 158 = true := by decide +kernel
set_option maxRecDepth 100000 in
theorem zokM_159 : zokM 159 = true := by decide +kernel
set_option maxRecDepth 100000 in
theorem zokM_160 : zokM 160 = true := by decide +kernel
set_option maxRecDepth 100000 in
theorem zokM_161 : zokM 161 = true := by decide +kernel
set_option maxRecDepth 100000 in
theorem zokM_162 : zokM 162 = true := by decide +kernel
set_option maxRecDepth 100000 in
theorem zokM_163 : zokM 163 = true := by decide +kernel
set_option maxRecDepth 100000 in
theorem zokM_164 : zokM 164 = true := by decide +kernel
set_option maxRecDepth 100000 in
theorem zokM_165 : zokM 165 = true := by decide +kernel
set_option maxRecDepth 100000 in
theorem zokM_166 : zokM 166 = true := by decide +kernel
set_option maxRecDepth 100000 in
theorem zokM_167 : zokM 167 = true := by decide +kernel
set_option maxRecDepth 100000 in
theorem zokM_168 : zokM 168 = true := by decide +kernel
set_option maxRecDepth 100000 in
theorem zokM_169 : zokM 169 = true := by decide +kernel
set_option maxRecDepth 100000 in
theorem zokM_170 : zokM 170 = true := by decide +kernel
set_option maxRecDepth 100000 in
theorem zokM_171 : zokM 171 = true := by decide +kernel
set_option maxRecDepth 100000 in
theorem zokM_172 : zokM 172 = true := by decide +kernel
set_option maxRecDepth 100000 in
theorem zokM_173 : zokM 173 = true := by decide +kernel
set_option maxRecDepth 100000 in
theorem zokM_174 : zokM 174 = true := by decide +kernel
set_option maxRecDepth 100000 in
theorem zokM_175 : zokM 175 = true := by decide +kernel
set_option maxRecDepth 100000 in
theorem zokM_176 : zokM 176 = true := by decide +kernel
set_option maxRecDepth 100000 in
theorem zokM_177 : zokM 177 = true := by decide +kernel
set_option maxRecDepth 100000 in
theorem zokM_178 : zokM 178 = true := by decide +kernel
set_option maxRecDepth 100000 in
theorem zokM_179 : zokM 179 = true := by decide +kernel
theorem zokN_all : ∀ m, m < 180 → zokN m = true
  | 0, _ => zokN_0
  | 1, _ => zokN_1
  | 2, _ => zokN_2
  | 3, _ => zokN_3
  | 4, _ => zokN_4
  | 5, _ => zokN_5
  | 6, _ => zokN_6
  | 7, _ => zokN_7
  | 8, _ => zokN_8
  | 9, _ => zokN_9
  | 10, _ => zokN_10
  | 11, _ => zokN_11
  | 12, _ => zokN_12
  | 13, _ => zokN_13
  | 14, _ => zokN_14
  | 15, _ => zokN_15
  | 16, _ => zokN_16
  | 17, _ => zokN_17
  | 18, _ => zokN_18
  | 19, _ => zokN_19
  | 20, _ => zokN_20
  | 21, _ => zokN_21
  | 22, _ => zokN_22
  | 23, _ => zokN_23
  | 24, _ => zokN_24
  | 25, _ => zokN_25
  | 26, _ => zokN_26
  | 27, _ => zokN_27
  | 28, _ => zokN_28
  | 29, _ => zokN_29
  | 30, _ => zokN_30
  | 31, _ => zokN_31
  | 32, _ => zokN_32
  | 33, _ => zokN_33
  | 34, _ => zokN_34
  | 35, _ => zokN_35
  | 36, _ => zokN_36
  | 37, _ => zokN_37
  | 38, _ => zokN_38
  | 39, _ => zokN_39
  | 40, _ => zokN_40
  | 41, _ => zokN_41
  | 42, _ => zokN_42
  | 43, _ => zokN_43
  | 44, _ => zokN_44
  | 45, _ => zokN_45
  | 46, _ => zokN_46
  | 47, _ => zokN_47
  | 48, _ => zokN_48
  | 49, _ => zokN_49
  | 50, _ => zokN_50
  | 51, _ => zokN_51
  | 52, _ => zokN_52
  | 53, _ => zokN_53
  | 54, _ => zokN_54
  | 55, _ => zokN_55
  | 56, _ => zokN_56
  | 57, _ => zokN_57
  | 58, _ => zokN_58
  | 59, _ => zokN_59
  | 60, _ => zokN_60
  | 61, _ => zokN_61
  | 62, _ => zokN_62
  | 63, _ => zokN_63
  | 64, _ => zokN_64
  | 65, _ => zokN_65
  | 66, _ => zokN_66
  | 67, _ => zokN_67
  | 68, _ => zokN_68
  | 69, _ => zokN_69
  | 70, _ => zokN_70
  | 71, _ => zokN_71
  | 72, _ => zokN_72
  | 73, _ => zokN_73
  | 74, _ => zokN_74
  | 75, _ => zokN_75
  | 76, _ => zokN_76
  | 77, _ => zokN_77
  | 78, _ => zokN_78
  | 79, _ => zokN_79
  | 80, _ => zokN_80
  | 81, _ => zokN_81
  | 82, _ => zokN_82
  | 83, _ => zokN_83
  | 84, _ => zokN_84
  | 85, _ => zokN_85
  | 86, _ => zokN_86
  | 87, _ => zokN_87
  | 88, _ => zokN_88
  | 89, _ => zokN_89
  | 90, _ => zokN_90
  | 91, _ => zokN_91
  | 92, _ => zokN_92
  | 93, _ => zokN_93
  | 94, _ => zokN_94
  | 95, _ => zokN_95
  | 96, _ => zokN_96
  | 97, _ => zokN_97
  | 98, _ => zokN_98
  | 99, _ => zokN_99
  | 100, _ => zokN_100
  | 101, _ => zokN_101
  | 102, _ => zokN_102
  | 103, _ => zokN_103
  | 104, _ => zokN_104
  | 105, _ => zokN_105
  | 106, _ => zokN_106
  | 107, _ => zokN_107
  | 108, _ => zokN_108
  | 109, _ => zokN_109
  | 110, _ => zokN_110
  | 111, _ => zokN_111
  | 112, _ => zokN_112
  | 113, _ => zokN_113
  | 114, _ => zokN_114
  | 115, _ => zokN_115
  | 116, _ => zokN_116
  | 117, _ => zokN_117
  | 118, _ => zokN_118
  | 119, _ => zokN_119
  | 120, _ => zokN_120
  | 121, _ => zokN_121
  | 122, _ => zokN_122
  | 123, _ => zokN_123
  | 124, _ => zokN_124
  | 125, _ => zokN_125
  | 126, _ => zokN_126
  | 127, _ => zokN_127
  | 128, _ => zokN_128
  | 129, _ => zokN_129
  | 130, _ => zokN_130
  | 131, _ => zokN_131
  | 132, _ => zokN_132
  | 133, _ => zokN_133
  | 134, _ => zokN_134
  | 135, _ => zokN_135
  | 136, _ => zokN_136
  | 137, _ => zokN_137
  | 138, _ => zokN_138
  | 139, _ => zokN_139
  | 140, _ => zokN_140
  | 141, _ => zokN_141
  | 142, _ => zokN_142
  | 143, _ => zokN_143
  | 144, _ => zokN_144
  | 145, _ => zokN_145
  | 146, _ => zokN_146
  | 147, _ => zokN_147
  | 148, _ => zokN_148
  | 149, _ => zokN_149
  | 150, _ => zokN_150
  | 151, _ => zokN_151
  | 152, _ => zokN_152
  | 153, _ => zokN_153
  | 154, _ => zokN_154
  | 155, _ => zokN_155
  | 156, _ => zokN_156
  | 157, _ => zokN_157
  | 158, _ => zokN_158
  | 159, _ => zokN_159
  | 160, _ => zokN_160
  | 161, _ => zokN_161
  | 162, _ => zokN_162
  | 163, _ => zokN_163
  | 164, _ => zokN_164
  | 165, _ => zokN_165
  | 166, _ => zokN_166
  | 167, _ => zokN_167
  | 168, _ => zokN_168
  | 169, _ => zokN_169
  | 170, _ => zokN_170
  | 171, _ => zokN_171
  | 172, _ => zokN_172
  | 173, _ => zokN_173
  | 174, _ => zokN_174
  | 175, _ => zokN_175
  | 176, _ => zokN_176
  | 177, _ => zokN_177
  | 178, _ => zokN_178
  | 179, _ => zokN_179
  | m + 180, h => absurd h (by omega)
theorem zokM_all : ∀ m, m < 180 → zokM m = true
  | 0, _ => zokM_0
  | 1, _ => zokM_1
  | 2, _ => zokM_2
  | 3, _ => zokM_3
  | 4, _ => zokM_4
  | 5, _ => zokM_5
  | 6, _ => zokM_6
  | 7, _ => zokM_7
  | 8, _ => zokM_8
  | 9, _ => zokM_9
  | 10, _ => zokM_10
  | 11, _ => zokM_11
  | 12, _ => zokM_12
  | 13, _ => zokM_13
  | 14, _ => zokM_14
  | 15, _ => zokM_15
  | 16, _ => zokM_16
  | 17, _ => zokM_17
  | 18, _ => zokM_18
  | 19, _ => zokM_19
  | 20, _ => zokM_20
  | 21, _ => zokM_21
  | 22, _ => zokM_22
  | 23, _ => zokM_23
  | 24, _ => zokM_24
  | 25, _ => zokM_25
  | 26, _ => zokM_26
  | 27, _ => zokM_27
  | 28, _ => zokM_28
  | 29, _ => zokM_29
  | 30, _ => zokM_30
  | 31, _ => zokM_31
  | 32, _ => zokM_32
  | 33, _ => zokM_33
  | 34, _ => zokM_34
  | 35, _ => zokM_35
  | 36, _ => zokM_36
  | 37, _ => zokM_37
  | 38, _ => zokM_38
  | 39, _ => zokM_39
  | 40, _ => zokM_40
  | 41, _ => zokM_41
  | 42, _ => zokM_42
  | 43, _ => zokM_43
  | 44, _ => zokM_44
  | 45, _ => zokM_45
  | 46, _ => zokM_46
  | 47, _ => zokM_47
  | 48, _ => zokM_48
  | 49, _ => zokM_49
  | 50, _ => zokM_50
  | 51, _ => zokM_51
  | 52, _ => zokM_52
  | 53, _ => zokM_53
  | 54, _ => zokM_54
  | 55, _ => zokM_55
  | 56, _ => zokM_56
  | 57, _ => zokM_57
  | 58, _ => zokM_58
  | 59, _ => zokM_59
  | 60, _ => zokM_60
  | 61, _ => zokM_61
  | 62, _ => zokM_62
  | 63, _ => zokM_63
  | 64, _ => zokM_64
  | 65, _ => zokM_65
  | 66, _ => zokM_66
  | 67, _ => zokM_67
  | 68, _ => zokM_68
  | 69, _ => zokM_69
  | 70, _ => zokM_70
  | 71, _ => zokM_71
  | 72, _ => zokM_72
  | 73, _ => zokM_73
  | 74, _ => zokM_74
  | 75, _ => zokM_75
  | 76, _ => zokM_76
  | 77, _ => zokM_77
  | 78, _ => zokM_78
  | 79, _ => zokM_79
  | 80, _ => zokM_80
  | 81, _ => zokM_81
  | 82, _ => zokM_82
  | 83, _ => zokM_83
  | 84, _ => zokM_84
  | 85, _ => zokM_85
  | 86, _ => zokM_86
  | 87, _ => zokM_87
  | 88, _ => zokM_88
  | 89, _ => zokM_89
  | 90, _ => zokM_90
  | 91, _ => zokM_91
  | 92, _ => zokM_92
  | 93, _ => zokM_93
  | 94, _ => zokM_94
  | 95, _ => zokM_95
  | 96, _ => zokM_96
  | 97, _ => zokM_97
  | 98, _ => zokM_98
  | 99, _ => zokM_99
  | 100, _ => zokM_100
  | 101, _ => zokM_101
  | 102, _ => zokM_102
  | 103, _ => zokM_103
  | 104, _ => zokM_104
  | 105, _ => zokM_105
  | 106, _ => zokM_106
  | 107, _ => zokM_107
  | 108, _ => zokM_108
  | 109, _ => zokM_109
  | 110, _ => zokM_110
  | 111, _ => zokM_111
  | 112, _ => zokM_112
  | 113, _ => zokM_113
  | 114, _ => zokM_114
  | 115, _ => zokM_115
  | 116, _ => zokM_116
  | 117, _ => zokM_117
  | 118, _ => zokM_118
  | 119, _ => zokM_119
  | 120, _ => zokM_120
  | 121, _ => zokM_121
  | 122, _ => zokM_122
  | 123, _ => zokM_123
  | 124, _ => zokM_124
  | 125, _ => zokM_125
  | 126, _ => zokM_126
  | 127, _ => zokM_127
  | 128, _ => zokM_128
  | 129, _ => zokM_129
  | 130, _ => zokM_130
  | 131, _ => zokM_131
  | 132, _ => zokM_132
  | 133, _ => zokM_133
  | 134, _ => zokM_134
  | 135, _ => zokM_135
  | 136, _ => zokM_136
  | 137, _ => zokM_137
  | 138, _ => zokM_138
  | 139, _ => zokM_139
  | 140, _ => zokM_140
  | 141, _ => zokM_141
  | 142, _ => zokM_142
  | 143, _ => zokM_143
  | 144, _ => zokM_144
  | 145, _ => zokM_145
  | 146, _ => zokM_146
  | 147, _ => zokM_147
  | 148, _ => zokM_148
  | 149, _ => zokM_149
  | 150, _ => zokM_150
  | 151, _ => zokM_151
  | 152, _ => zokM_152
  | 153, _ => zokM_153
  | 154, _ => zokM_154
  | 155, _ => zokM_155
  | 156, _ => zokM_156
  | 157, _ => zokM_157
  | 158, _ => zokM_158
  | 159, _ => zokM_159
  | 160, _ => zokM_160
  | 161, _ => zokM_161
  | 162, _ => zokM_162
  | 163, _ => zokM_163
  | 164, _ => zokM_164
  | 165, _ => zokM_165
  | 166, _ => zokM_166
  | 167, _ => zokM_167
  | 168, _ => zokM_168
  | 169, _ => zokM_169
  | 170, _ => zokM_170
  | 171, _ => zokM_171
  | 172, _ => zokM_172
  | 173, _ => zokM_173
  | 174, _ => zokM_174
  | 175, _ => zokM_175
  | 176, _ => zokM_176
  | 177, _ => zokM_177
  | 178, _ => zokM_178
  | 179, _ => zokM_179
  | m + 180, h => absurd h (by omega)
end
section
/-! the small machine is sound: what it runs, the machine runs -/
def zTb : List Jvm.Cond := lw_tbl.filter goodWord
theorem zin {k : Nat} {w : Jvm.Cond} (h : zw k = some w) (hg : goodWord w = true) : w ∈ zTb := List.mem_filter.mpr ⟨List.mem_of_getElem? h, hg⟩
theorem zTb_good : GoodIn zTb zTb := fun _ hw => ⟨hw, good_of_word (List.mem_filter.mp hw).2⟩
def zv (ad : Nat → Nat) : Value → Value
  | .ref r => .ref (ad r)
  | v => v
theorem zv_cat (ad : Nat → Nat) (v : Value) : (zv ad v).category = v.category := by cases v <;> rfl
def zce (ad : Nat → Nat) (cA cS : ClassId) (σ : zM) (k : Nat) (e : zE) : va_E := match e with
  | .inl n => .inl (cA, n, .inl (σ k))
  | .inr (.inl (ci, fl)) => .inr (ci, fl.mapIdx (fun j o => match o with | some r => Value.ref (ad r) | none => .int (σ k j)))
  | .inr (.inr rs) => .inl (cS, rs.length, .inr (.inr (.inr (.inr (fun i => (rs[i]?).map ad)))))
def zW (ad : Nat → Nat) (cA cS : ClassId) (σ : zM) : va_W := zLy.mapIdx (fun k e => (ad k, zce ad cA cS σ k e))
abbrev zTy (cA cS : ClassId) : List (ClassId × FieldType) := [(cA, .int), (cS, .object RX0)]
def zNs (U : State) : Prop := ∀ a i x h, Jvm.Cond.methodLinkNest a i x h ∈ lw_tbl → va_Nw (.methodLinkNest a i x h) U
def zOk (p : Program) (R : Room) (s : State) (mm : MethodId) (args : Array Value) (meth : Method) (c : Code) (D : va_G) (cA cS : ClassId) (d m : Nat) : Prop :=
  p.tables.exec = Jvm.exec ∧ c.code = zb m ∧ meth.sig.returnType = zr m ∧ c.maxLocals = zl m ∧ s.vm.findClass (zo m) = some mm.cls ∧ (∀ w ∈ zTb, w.before args s = true) ∧ meth.locks = false ∧ (d ≤ R.frames ∧ 32 * d ≤ R.locals) ∧ va_K D vwCl (zTy cA cS) s ∧ zNs s
def zPo (D : va_G) (ad : Nat → Nat) (cA cS : ClassId) (Q : Option Value → zM → Prop) (A : Nat → Prop) : Array Value → State → Outcome → State → Prop := fun _ st oc t =>
  (∃ (r : Option Value) (σ' : zM), oc = .returned (r.map (zv ad)) ∧ Q r σ' ∧ va_P D vwCl (zW ad cA cS σ') t.heap ∧ va_K D vwCl (zTy cA cS) t ∧ zNs t ∧ va_D A (zW ad cA cS σ')) ∧ va_F A st t
def zlm (ad : Nat → Nat) (lv : List (Nat × Value)) : List (Nat × Value) := lv.map (fun q => (q.1, zv ad q.2))
def zSem (l : Launch) (D : va_G) (ad : Nat → Nat) (cA cS : ClassId) : zT := fun d m i lv st σ Q =>
  ∀ (p : Program) (e : Env) (R : Room) (s : State) (mm : MethodId) (args : Array Value) (below : List Frame) (meth : Method) (c : Code) (A : Nat → Prop) (H : Heap) (locs : List Loc) (ls : Array Slot),
    zOk p R s mm args meth c D cA cS d m → (∀ q, s.heap.size ≤ q → A q) → va_P D vwCl (zW ad cA cS σ) H → va_D A (zW ad cA cS σ) → va_S A s.heap H locs → lv_has ls (zl m) (zlm ad lv) →
    W p l e R s mm args below meth c H locs 0 0 (MQ below (zPo D ad cA cS Q A) args s 0 0 A) (F0 mm (zpc m i) ls (st.map (zv ad)))
theorem zW_get {ad : Nat → Nat} {cA cS : ClassId} {σ : zM} {k : Nat} {e : zE} (h : zLy[k]? = some e) : (zW ad cA cS σ)[k]? = some (ad k, zce ad cA cS σ k e) := by
  simp [zW, List.getElem?_mapIdx, h]
theorem zce_congr {ad : Nat → Nat} {cA cS : ClassId} {σ σ' : zM} {k : Nat} (h : σ' k = σ k) (e : zE) : zce ad cA cS σ' k e = zce ad cA cS σ k e := by
  unfold zce
  rw [h]
theorem zW_set {ad : Nat → Nat} {cA cS : ClassId} {σ σ' : zM} {b : Nat} {e : zE} (hb : zLy[b]? = some e) (ho : ∀ k, k ≠ b → σ' k = σ k) : (zW ad cA cS σ).set b (ad b, zce ad cA cS σ' b e) = zW ad cA cS σ' := by
  refine List.ext_getElem? fun k => ?_
  have hlt : b < zLy.length := (List.getElem?_eq_some_iff.mp hb).1
  rw [List.getElem?_set]
  by_cases hk : b = k
  · subst hk
    rw [if_pos rfl, if_pos (by simpa [zW] using hlt), zW_get hb]
  · rw [if_neg hk]
    simp only [zW, List.getElem?_mapIdx]
    cases zLy[k]? with
    | none => rfl
    | some e' =>
      simp only [Option.map_some]
      rw [zce_congr (ho k (Ne.symm hk))]
theorem zu_ne {σ : zM} {b j : Nat} {x : Int32} {k : Nat} (h : k ≠ b) : zu σ b j x k = σ k := by
  funext q
  unfold zu
  rw [if_neg h]
theorem zu_eq {σ : zM} {b j : Nat} {x : Int32} : zu σ b j x b = upd (σ b) j x := by
  funext q
  unfold zu
  rw [if_pos rfl]
theorem zcp_ne {σ : zM} {a b sp dp n : Nat} {k : Nat} (h : k ≠ b) : zcp σ a b sp dp n k = σ k := by
  funext q
  unfold zcp
  rw [if_neg h]
theorem zcp_eq {σ : zM} {a b sp dp n : Nat} : zcp σ a b sp dp n b = va_cpy (σ a) (σ b) sp dp n := by
  funext q
  unfold zcp
  rw [if_pos rfl]
theorem zg_mem : ∀ {lv : List (Nat × Value)} {k : Nat} {v : Value}, zg lv k = some v → (k, v) ∈ lv
  | [], _, _, h => by cases h
  | q :: r, k, v, h => by
    unfold zg at h
    cases hq : Nat.beq q.1 k with
    | true =>
      rw [hq] at h
      have e1 : q.1 = k := Nat.eq_of_beq_eq_true hq
      have e2 : q.2 = v := Option.some.inj h
      rw [← e1, ← e2]
      exact List.mem_cons_self
    | false =>
      rw [hq] at h
      exact List.mem_cons_of_mem _ (zg_mem h)
theorem zlv {ad : Nat → Nat} {lv : List (Nat × Value)} {k n : Nat} {v : Value} {ls : Array Slot} (hg : zg lv k = some v) (h : lv_has ls n (zlm ad lv)) : ls[k]? = some (.val (zv ad v)) :=
  h.2.2 (k, zv ad v) (List.mem_map.mpr ⟨(k, v), zg_mem hg, rfl⟩)
theorem zs_map (ad : Nat → Nat) (lv : List (Nat × Value)) (k : Nat) (v : Value) : (k, zv ad v) :: (zlm ad lv).filter (fun q => !(q.1 == k) && !(q.1 + 1 == k && q.2.category == 2)) = zlm ad (zs lv k v) := by
  unfold zs zlm
  rw [List.map_cons, List.filter_map]
  congr 2
  refine List.filter_congr fun q _ => ?_
  simp [zv_cat]
theorem zcat_map (ad : Nat → Nat) (l : List Value) : ((l.map (zv ad)).map fun v => v.category).sum = zcat l := by
  unfold zcat
  rw [List.map_map]
  congr 1
  exact List.map_congr_left fun v _ => zv_cat ad v
theorem zsl_map (ad : Nat → Nat) (l : List Value) : (lg_sl (l.map (zv ad))).length = (lg_sl l).length := by
  unfold lg_sl
  induction l with
  | nil => rfl
  | cons v r ih =>
    simp only [List.map_cons, List.flatMap_cons, List.length_append, ih, zv_cat]
    cases v <;> rfl
theorem zargs_map (ad : Nat → Nat) : ∀ (l : List Value) (k : Nat), lv_args k (l.map (zv ad)) = zlm ad (lv_args k l)
  | [], _ => rfl
  | v :: r, k => by
    simp only [List.map_cons, lv_args, zlm, zv_cat, zargs_map ad r]
theorem zrow {m i : Nat} {q : zR} (h : (zP m)[i]? = some q) : m < 180 ∧ zok m i q = true := by
  have hm : m < 180 := by
    rcases Nat.lt_or_ge m 180 with h1 | h1
    · exact h1
    · have h2 : zP m = [] := by
        unfold zP
        rw [List.getD_eq_getElem?_getD, List.getElem?_eq_none (show zPl.length ≤ m from h1)]
        rfl
      rw [h2] at h
      cases h
  refine ⟨hm, ?_⟩
  have h1 := zokM_all m hm
  unfold zokM at h1
  have h2 := List.all_eq_true.mp h1 i (List.mem_range.mpr (List.getElem?_eq_some_iff.mp h).1)
  rw [h] at h2
  exact h2
theorem zokN_sp {m : Nat} (hm : m < 180) : Jvm.Cond.code (zy m) (zb m) (zl m) (zr m) ∈ zTb ∧ Jvm.Cond.initialized (zo m) ∈ zTb ∧ plainFor (zy m) = true ∧ ((zo m) ≠ "java/lang/invoke/MethodHandle" ∧ (zo m) ≠ "java/lang/invoke/VarHandle" ∧ (parseMethodDescriptor (zy m).desc).map (fun d => d.parameters.length) = some (znp m)) ∧ zl m ≤ 13 ∧ (zci m < 5 → (vwCl[zci m]?).map (fun q => q.1) = some (zo m)) := by
  have h := zokN_all m hm
  unfold zokN at h
  simp only [Bool.and_eq_true, Bool.or_eq_true, decide_eq_true_eq, beq_iff_eq] at h
  obtain ⟨⟨⟨⟨⟨h1, h2⟩, h3⟩, h4⟩, h5⟩, h6⟩ := h
  refine ⟨zin h1 rfl, zin h2 rfl, h3, h4, h5, fun hc => ?_⟩
  rcases h6 with h6 | h6
  · omega
  · exact h6
theorem zcl_sp : ∀ (ci : Nat) (q : vw_C), vwCl[ci]? = some q → (∀ w ∈ u_ws q.1 q.2.1 q.2.2, w ∈ zTb) ∧ (∃ ty : Nat → FieldType, ∀ k, k < q.2.2 → parseFieldDescriptor (q.2.1 k).2.2.1 = some (ty k)) ∧ (∀ a, a < q.2.2 → ∀ b, b < q.2.2 → a ≠ b → (q.2.1 a).2.1 ≠ (q.2.1 b).2.1)
  | 0, q, h => by cases h; exact ⟨by decide +kernel, ⟨tyX0, tyX0_ok⟩, nmX0⟩
  | 1, q, h => by cases h; exact ⟨by decide +kernel, ⟨tyX1, tyX1_ok⟩, nmX1⟩
  | 2, q, h => by cases h; exact ⟨by decide +kernel, ⟨tyX2, tyX2_ok⟩, nmX2⟩
  | 3, q, h => by cases h; exact ⟨by decide +kernel, ⟨tyX3, tyX3_ok⟩, nmX3⟩
  | 4, q, h => by cases h; exact ⟨by decide +kernel, ⟨tyX4, tyX4_ok⟩, nmX4⟩
  | n + 5, q, h => by simp [vwCl] at h
theorem zpc0 : ∀ m, m < 180 → zpc m 0 = 0 := by decide +kernel
/-- a method's contract out of what the small machine says of its body -/
theorem zofW {l : Launch} {y : MethodName} {ws ws' : List Jvm.Cond} {rm : Room} {Pc : Array Value → State → Prop} {Qc : Array Value → State → Outcome → State → Prop} {mc ms : Nat} {free : Addr → Prop} {cc : ByteArray} {maxL : Nat} {ret : Option FieldType}
    (hy : plainFor y = true) (hw : ws = Jvm.Cond.code y cc maxL ret :: ws')
    (body : ∀ p e s m args below meth c s₁, BodyLoose p l y (headSpec ws rm) cc maxL ret e s m args below meth c s₁ → c.maxLocals = maxL → Pc args s →
      W p l e (headSpec ws rm).room s m args below meth c s.heap [] 0 0 (MQ below Qc args s mc ms free) (entryFrame m args maxL)) : Met l y ws rm Pc Qc mc ms free := by
  refine MetFree.of_bodySF (code := cc) (maxLocals := maxL) (ret := ret) hy ?_ ?_
  · intro args s m h hn
    obtain ⟨meth, c, h1, h2, h3, h4, h5, h6, -, -⟩ := Cond.code_spec hn (atoms_spec (ws := ws) h _ (by rw [hw]; exact List.mem_cons_self))
    exact ⟨meth, c, h1, h2, h3, h4, h5, h6⟩
  · intro p e s m args below meth c s₁ B hml hP _
    have hh0 : s₁.heap = s.heap := by rw [B.state]; rfl
    obtain ⟨t, a1, o, b1, b2, b3⟩ := body p e s m args below meth c s₁ B hml hP s₁ hh0 (Stand.of_body B)
    exact ⟨t, o, a1, b1, b2, ⟨b3.1, b3.2⟩⟩
def zws (m : Nat) : List Jvm.Cond := Jvm.Cond.code (zy m) (zb m) (zl m) (zr m) :: zTb
def zrm (d : Nat) : Room := { frames := d, cells := 0, slots := 0, locals := 32 * d }
def zPr (D : va_G) (ad : Nat → Nat) (cA cS : ClassId) (σ : zM) (sz : Nat) (U : State) : Prop := U.heap.size = sz ∧ va_P D vwCl (zW ad cA cS σ) U.heap ∧ va_K D vwCl (zTy cA cS) U ∧ zNs U ∧ va_D (fun _ => True) (zW ad cA cS σ)
theorem zMet {l : Launch} {D : va_G} {ad : Nat → Nat} {cA cS : ClassId} {d m : Nat} {av : List Value} {σ : zM} {Q : Option Value → zM → Prop} (hm : m < 180) (hav : (lg_sl av).length ≤ zl m) (h : zSem l D ad cA cS d m 0 (lv_args 0 av) [] σ Q) (sz : Nat) :
    Met l (zy m) (zws m) (zrm d) (va_Pc (av.map (zv ad)) (zPr D ad cA cS σ sz)) (zPo D ad cA cS Q (va_A (zW ad cA cS σ) sz)) 0 0 (va_A (zW ad cA cS σ) sz) := by
  obtain ⟨n1, n2, n3, n4, n5, n6⟩ := zokN_sp hm
  refine zofW (cc := zb m) (maxL := zl m) (ret := zr m) n3 rfl ?_
  intro p e s mm args below meth c s₁ B hml hv
  obtain ⟨rfl, hsz, hP, hK, hN, hD0⟩ := hv
  have hts : ∀ w ∈ zTb, w.before (av.map (zv ad)).toArray s = true := fun w hw => atoms_spec (ws := zws m) B.pre w (List.mem_cons_of_mem _ hw)
  subst hsz
  have hl := lv_entry (av.map (zv ad)) (n := zl m) (by rw [zsl_map]; exact hav)
  rw [lg_entry_eq]
  rw [zargs_map] at hl
  have k := h p e (zrm d) s mm (av.map (zv ad)).toArray below meth c (va_A (zW ad cA cS σ) s.heap.size) s.heap [] _ ⟨B.exec, B.bytes, B.returns, hml, findClass_of_methodNamed B.named, hts, B.notSynchronized, ⟨Nat.le_refl _, Nat.le_refl _⟩, hK, hN⟩ (fun q hq => Or.inr hq) hP hD0.self va_S.rf hl
  rw [zpc0 m hm] at k
  exact k
/-- behind a call -/
theorem zgo {p : Program} {l : Launch} {e : Env} {R : Room} {s : State} {m : MethodId} {args : Array Value} {below : List Frame} {meth : Method} {c : Code} {H : Heap} {locs : List Loc} {Q : State → Prop} {D : va_G} {ad : Nat → Nat} {cA cS : ClassId} {Q' : Option Value → zM → Prop} {A A1 : Nat → Prop} {pc : Nat} {ls : Array Slot} {st0 rest : List Value} {a : Array Value} {H0 : Heap}
    (hr : va_Run p l e R s m args below meth c H locs 0 0 0 0 (F0 m pc ls st0) rest (zPo D ad cA cS Q' A1 a) A1) (hS : va_S A H0 H locs) (hA : ∀ q, A1 q → A q)
    (kk : ∀ (r : Option Value) (σ' : zM) (H1 : Heap) (locs1 : List Loc), Q' r σ' → va_P D vwCl (zW ad cA cS σ') H1 → va_D A (zW ad cA cS σ') → va_S A H0 H1 locs1 → W p l e R s m args below meth c H1 locs1 0 0 Q (F0 m (pc + 3) ls ((r.map (zv ad)).toList ++ rest))) : W p l e R s m args below meth c H locs 0 0 Q (F0 m pc ls st0) := by
  intro T hT X
  obtain ⟨v, st₀, t, T', L, h0, X', hL, e1, e2, ⟨⟨r, σ', hv, hq, hP1, hK1, hN1, hD1⟩, hz, hk⟩, st⟩ := hr T hT X
  have hv' : v = r.map (zv ad) := by cases hv; rfl
  subst hv'
  rw [h0] at hz hk
  obtain ⟨t2, a1, b1⟩ := kk r σ' T'.heap (locs ++ L) hq (by rw [e1]; exact hP1) (hD1.weaken (fun _ q _ h => hA q.1 h))
    ⟨Nat.le_trans hS.1 (by rw [e1]; exact hz), fun q h1 h2 => by rw [e1, hk q (Nat.lt_of_lt_of_le h1 hS.1) (fun z => h2 (hA q z))]; exact hS.2.1 q h1 h2, fun q hq => by
      rcases List.mem_append.mp hq with h | h
      · exact hS.2.2 q h
      · exact hA _ (hL q h)⟩ T' rfl X'
  exact ⟨t2, st t2 a1, b1⟩
theorem zblind {D : va_G} {ad : Nat → Nat} {cA cS : ClassId} {σ : zM} {sz : Nat} {av : List Value} : FrameBlind (va_Pc av (zPr D ad cA cS σ sz)) := fun a U g mk q => by
  obtain ⟨q0, q1, qP, qK, qN, qD⟩ := q
  exact ⟨q0, q1, qP, va_K.moved (u := U) (U := U.calling g mk a) (Vm.Alike.refl U.vm) qK, fun a i x h hh => va_Nw.same (U := U.calling g mk _) rfl rfl (qN a i x h hh), qD⟩
theorem zfree {D : va_G} {ad : Nat → Nat} {cA cS : ClassId} {σ : zM} {A : Nat → Prop} {H0 H : Heap} {locs : List Loc} (hD : va_D A (zW ad cA cS σ)) (hS : va_S A H0 H locs) (hA : ∀ q, H0.size ≤ q → A q) : ∀ q, va_A (zW ad cA cS σ) H.size q → A q := by
  intro q h
  rcases h with ⟨k, e, h⟩ | h
  · exact hD.2 k (q, e) h
  · exact hA q (Nat.le_trans hS.1 h)
theorem zpre {D : va_G} {ad : Nat → Nat} {cA cS : ClassId} {σ : zM} {s U : State} {H : Heap} {A : Nat → Prop} {av : List Value} (hP : va_P D vwCl (zW ad cA cS σ) H) (hD : va_D A (zW ad cA cS σ)) (hK : va_K D vwCl (zTy cA cS) s) (hN : zNs s) (hU : U.heap = H) (hW : s.WarmedH U.vm) : va_Pc av (zPr D ad cA cS σ H.size) av.toArray U :=
  ⟨rfl, by rw [hU], by rw [hU]; exact hP, va_K.moved hW.alike hK, fun a i x h hh => va_Nw.warmM hW (hN a i x h hh), hD.weaken (fun _ _ _ _ => trivial)⟩
set_option maxHeartbeats 8000000 in
set_option maxRecDepth 100000 in
theorem zSound (l : Launch) (D : va_G) (ad : Nat → Nat) (cA cS : ClassId) : zCl (zSem l D ad cA cS) := by
  intro d m i lv st σ Q h
  unfold zst at h
  split at h
  rotate_left
  · exact h.elim
  rename_i pc I L hrow
  intro p e R s mm args below meth c A H locs ls hO hA hP hD hS hlv
  obtain ⟨hm180, hok⟩ := zrow hrow
  simp only [zok, Bool.and_eq_true, Bool.or_eq_true, Bool.not_eq_true', decide_eq_true_eq] at hok
  obtain ⟨⟨hd, hn⟩, hl⟩ := hok
  have hpc : zpc m i = pc := by simp [zpc, hrow]
  rw [hpc]
  obtain ⟨hx, hb, hr, hml, hown, hts, hlocks, ⟨hRf0, hRl0⟩, hK, hNs⟩ := id hO
  cases I with
  | iconst n =>
    have nx : zpc m (i + 1) = pc + 1 := by simpa [zfall, zn] using hn
    exact lv_iconst hx hb hd rfl (by have k := h p e R s mm args below meth c A H locs ls hO hA hP hD hS hlv; rw [nx] at k; exact k)
  | bipush n =>
    have nx : zpc m (i + 1) = pc + 2 := by simpa [zfall, zn] using hn
    exact lv_bipush hx hb hd rfl (by have k := h p e R s mm args below meth c A H locs ls hO hA hP hD hS hlv; rw [nx] at k; exact k)
  | sipush n =>
    have nx : zpc m (i + 1) = pc + 3 := by simpa [zfall, zn] using hn
    exact lv_sipush hx hb hd rfl (by have k := h p e R s mm args below meth c A H locs ls hO hA hP hD hS hlv; rw [nx] at k; exact k)
  | lconst n =>
    have nx : zpc m (i + 1) = pc + 1 := by simpa [zfall, zn] using hn
    exact lv_lconst hx hb hd rfl (by have k := h p e R s mm args below meth c A H locs ls hO hA hP hD hS hlv; rw [nx] at k; exact k)
  | ldc k =>
    have nx : zpc m (i + 1) = pc + 2 := by simpa [zfall, zn] using hn
    exact lv_ldc hx hb hown (hts _ (zin (by simpa [zlk] using hl) rfl)) hd (by have k := h p e R s mm args below meth c A H locs ls hO hA hP hD hS hlv; rw [nx] at k; exact k)
  | ldc_w k =>
    have nx : zpc m (i + 1) = pc + 3 := by simpa [zfall, zn] using hn
    exact lv_ldcw hx hb hown (hts _ (zin (by simpa [zlk] using hl) rfl)) hd (by have k := h p e R s mm args below meth c A H locs ls hO hA hP hD hS hlv; rw [nx] at k; exact k)
  | ldc2_w k =>
    have nx : zpc m (i + 1) = pc + 3 := by simpa [zfall, zn] using hn
    exact lv_ldc2 hx hb hown (hts _ (zin (by simpa [zlk] using hl) rfl)) hd (by have k := h p e R s mm args below meth c A H locs ls hO hA hP hD hS hlv; rw [nx] at k; exact k)
  | aconst_null =>
    have nx : zpc m (i + 1) = pc + 1 := by simpa [zfall, zn] using hn
    exact lv_null hx hb hd (by have k := h p e R s mm args below meth c A H locs ls hO hA hP hD hS hlv; rw [nx] at k; exact k)
  | iload k =>
    have nx : zpc m (i + 1) = pc + 2 := by simpa [zfall, zn] using hn
    obtain ⟨x, hg, h⟩ := h
    exact lv_iload hx hb hd (zlv hg hlv) (by have k := h p e R s mm args below meth c A H locs ls hO hA hP hD hS hlv; rw [nx] at k; exact k)
  | iload_n k =>
    have nx : zpc m (i + 1) = pc + 1 := by simpa [zfall, zn] using hn
    obtain ⟨x, hg, h⟩ := h
    exact lv_iload_n hx hb hd rfl (zlv hg hlv) (by have k := h p e R s mm args below meth c A H locs ls hO hA hP hD hS hlv; rw [nx] at k; exact k)
  | lload k =>
    have nx : zpc m (i + 1) = pc + 2 := by simpa [zfall, zn] using hn
    obtain ⟨x, hg, h⟩ := h
    exact lv_lload hx hb hd (zlv hg hlv) (by have k := h p e R s mm args below meth c A H locs ls hO hA hP hD hS hlv; rw [nx] at k; exact k)
  | lload_n k =>
    have nx : zpc m (i + 1) = pc + 1 := by simpa [zfall, zn] using hn
    obtain ⟨x, hg, h⟩ := h
    exact lv_lload_n hx hb hd rfl (zlv hg hlv) (by have k := h p e R s mm args below meth c A H locs ls hO hA hP hD hS hlv; rw [nx] at k; exact k)
  | aload k =>
    have nx : zpc m (i + 1) = pc + 2 := by simpa [zfall, zn] using hn
    obtain ⟨v, hg, hv, h⟩ := h
    rcases hv with rfl | ⟨b, rfl⟩
    · exact lv_aloadN hx hb hd (zlv hg hlv) (by have k := h p e R s mm args below meth c A H locs ls hO hA hP hD hS hlv; rw [nx] at k; exact k)
    · exact lv_aload hx hb hd (zlv hg hlv) (by have k := h p e R s mm args below meth c A H locs ls hO hA hP hD hS hlv; rw [nx] at k; exact k)
  | aload_n k =>
    have nx : zpc m (i + 1) = pc + 1 := by simpa [zfall, zn] using hn
    obtain ⟨v, hg, hv, h⟩ := h
    rcases hv with rfl | ⟨b, rfl⟩
    · exact lv_aload_nN hx hb hd rfl (zlv hg hlv) (by have k := h p e R s mm args below meth c A H locs ls hO hA hP hD hS hlv; rw [nx] at k; exact k)
    · exact lv_aload_n hx hb hd rfl (zlv hg hlv) (by have k := h p e R s mm args below meth c A H locs ls hO hA hP hD hS hlv; rw [nx] at k; exact k)
  | istore k =>
    have nx : zpc m (i + 1) = pc + 2 := by simpa [zfall, zn] using hn
    obtain ⟨x, r, rfl, h⟩ := zk1_e h
    exact lv_istore hx hb hd hlv (by simpa [zlk] using hl) (zs_map ad lv _ (.int x)) (fun ls' hl' => by have k := h p e R s mm args below meth c A H locs ls' hO hA hP hD hS hl'; rw [nx] at k; exact k)
  | istore_n k =>
    have nx : zpc m (i + 1) = pc + 1 := by simpa [zfall, zn] using hn
    obtain ⟨x, r, rfl, h⟩ := zk1_e h
    exact lv_istore_n hx hb hd rfl hlv (by simpa [zlk] using hl) (zs_map ad lv _ (.int x)) (fun ls' hl' => by have k := h p e R s mm args below meth c A H locs ls' hO hA hP hD hS hl'; rw [nx] at k; exact k)
  | astore k =>
    have nx : zpc m (i + 1) = pc + 2 := by simpa [zfall, zn] using hn
    obtain ⟨v, r, rfl, hv, h⟩ := zkv_e h
    rcases hv with rfl | ⟨b, rfl⟩
    · exact lv_astoreN hx hb hd hlv (by simpa [zlk] using hl) (zs_map ad lv _ .null) (fun ls' hl' => by have k := h p e R s mm args below meth c A H locs ls' hO hA hP hD hS hl'; rw [nx] at k; exact k)
    · exact lv_astore hx hb hd hlv (by simpa [zlk] using hl) (zs_map ad lv _ (.ref b)) (fun ls' hl' => by have k := h p e R s mm args below meth c A H locs ls' hO hA hP hD hS hl'; rw [nx] at k; exact k)
  | astore_n k =>
    have nx : zpc m (i + 1) = pc + 1 := by simpa [zfall, zn] using hn
    obtain ⟨v, r, rfl, hv, h⟩ := zkv_e h
    rcases hv with rfl | ⟨b, rfl⟩
    · exact lv_astore_nN hx hb hd rfl hlv (by simpa [zlk] using hl) (zs_map ad lv _ .null) (fun ls' hl' => by have k := h p e R s mm args below meth c A H locs ls' hO hA hP hD hS hl'; rw [nx] at k; exact k)
    · exact lv_astore_n hx hb hd rfl hlv (by simpa [zlk] using hl) (zs_map ad lv _ (.ref b)) (fun ls' hl' => by have k := h p e R s mm args below meth c A H locs ls' hO hA hP hD hS hl'; rw [nx] at k; exact k)
  | iinc k n =>
    have nx : zpc m (i + 1) = pc + 3 := by simpa [zfall, zn] using hn
    obtain ⟨x, hg, h⟩ := h
    obtain ⟨q, hq⟩ := List.getElem?_of_mem (List.mem_map.mpr ⟨(k, .int x), zg_mem hg, rfl⟩ : (k, zv ad (.int x)) ∈ zlm ad lv)
    exact lv_iinc (k := q) (v := x + Int32.ofInt n) hx hb hd hlv hq rfl (by simpa [zlk] using hl) (zs_map ad lv _ (.int (x + Int32.ofInt n))) (fun ls' hl' => by have k := h p e R s mm args below meth c A H locs ls' hO hA hP hD hS hl'; rw [nx] at k; exact k)
  | iadd =>
    have nx : zpc m (i + 1) = pc + 1 := by simpa [zfall, zn] using hn
    obtain ⟨x, y, r, rfl, h⟩ := zk2_e h
    exact lv_iadd hx hb hd (by have k := h p e R s mm args below meth c A H locs ls hO hA hP hD hS hlv; rw [nx] at k; exact k)
  | isub =>
    have nx : zpc m (i + 1) = pc + 1 := by simpa [zfall, zn] using hn
    obtain ⟨x, y, r, rfl, h⟩ := zk2_e h
    exact lv_isub hx hb hd (by have k := h p e R s mm args below meth c A H locs ls hO hA hP hD hS hlv; rw [nx] at k; exact k)
  | imul =>
    have nx : zpc m (i + 1) = pc + 1 := by simpa [zfall, zn] using hn
    obtain ⟨x, y, r, rfl, h⟩ := zk2_e h
    exact lv_imul hx hb hd (by have k := h p e R s mm args below meth c A H locs ls hO hA hP hD hS hlv; rw [nx] at k; exact k)
  | iand =>
    have nx : zpc m (i + 1) = pc + 1 := by simpa [zfall, zn] using hn
    obtain ⟨x, y, r, rfl, h⟩ := zk2_e h
    exact lv_iand hx hb hd (by have k := h p e R s mm args below meth c A H locs ls hO hA hP hD hS hlv; rw [nx] at k; exact k)
  | ior =>
    have nx : zpc m (i + 1) = pc + 1 := by simpa [zfall, zn] using hn
    obtain ⟨x, y, r, rfl, h⟩ := zk2_e h
    exact lv_ior hx hb hd (by have k := h p e R s mm args below meth c A H locs ls hO hA hP hD hS hlv; rw [nx] at k; exact k)
  | ixor =>
    have nx : zpc m (i + 1) = pc + 1 := by simpa [zfall, zn] using hn
    obtain ⟨x, y, r, rfl, h⟩ := zk2_e h
    exact lv_ixor hx hb hd (by have k := h p e R s mm args below meth c A H locs ls hO hA hP hD hS hlv; rw [nx] at k; exact k)
  | ishl =>
    have nx : zpc m (i + 1) = pc + 1 := by simpa [zfall, zn] using hn
    obtain ⟨x, y, r, rfl, h⟩ := zk2_e h
    exact lv_ishl hx hb hd (by have k := h p e R s mm args below meth c A H locs ls hO hA hP hD hS hlv; rw [nx] at k; exact k)
  | ishr =>
    have nx : zpc m (i + 1) = pc + 1 := by simpa [zfall, zn] using hn
    obtain ⟨x, y, r, rfl, h⟩ := zk2_e h
    exact lv_ishr hx hb hd (by have k := h p e R s mm args below meth c A H locs ls hO hA hP hD hS hlv; rw [nx] at k; exact k)
  | idiv =>
    have nx : zpc m (i + 1) = pc + 1 := by simpa [zfall, zn] using hn
    obtain ⟨x, y, r, rfl, h0, h⟩ := zk2_e h
    exact lv_idiv hx hb hd h0 (by have k := h p e R s mm args below meth c A H locs ls hO hA hP hD hS hlv; rw [nx] at k; exact k)
  | irem =>
    have nx : zpc m (i + 1) = pc + 1 := by simpa [zfall, zn] using hn
    obtain ⟨x, y, r, rfl, h0, h⟩ := zk2_e h
    exact lv_irem hx hb hd h0 (by have k := h p e R s mm args below meth c A H locs ls hO hA hP hD hS hlv; rw [nx] at k; exact k)
  | iushr =>
    have nx : zpc m (i + 1) = pc + 1 := by simpa [zfall, zn] using hn
    obtain ⟨x, y, r, rfl, h⟩ := zk2_e h
    exact lv_iushr hx hb hd rfl (by have k := h p e R s mm args below meth c A H locs ls hO hA hP hD hS hlv; rw [nx] at k; exact k)
  | ineg =>
    have nx : zpc m (i + 1) = pc + 1 := by simpa [zfall, zn] using hn
    obtain ⟨x, r, rfl, h⟩ := zk1_e h
    exact lv_ineg hx hb hd (by have k := h p e R s mm args below meth c A H locs ls hO hA hP hD hS hlv; rw [nx] at k; exact k)
  | i2l =>
    have nx : zpc m (i + 1) = pc + 1 := by simpa [zfall, zn] using hn
    obtain ⟨x, r, rfl, h⟩ := zk1_e h
    exact lv_i2l hx hb hd rfl (by have k := h p e R s mm args below meth c A H locs ls hO hA hP hD hS hlv; rw [nx] at k; exact k)
  | i2b =>
    have nx : zpc m (i + 1) = pc + 1 := by simpa [zfall, zn] using hn
    obtain ⟨x, r, rfl, h⟩ := zk1_e h
    exact lv_i2b hx hb hd rfl (by have k := h p e R s mm args below meth c A H locs ls hO hA hP hD hS hlv; rw [nx] at k; exact k)
  | i2s =>
    have nx : zpc m (i + 1) = pc + 1 := by simpa [zfall, zn] using hn
    obtain ⟨x, r, rfl, h⟩ := zk1_e h
    exact lv_i2s hx hb hd rfl (by have k := h p e R s mm args below meth c A H locs ls hO hA hP hD hS hlv; rw [nx] at k; exact k)
  | l2i =>
    have nx : zpc m (i + 1) = pc + 1 := by simpa [zfall, zn] using hn
    obtain ⟨x, r, rfl, h⟩ := zk1l_e h
    exact lv_l2i hx hb hd rfl (by have k := h p e R s mm args below meth c A H locs ls hO hA hP hD hS hlv; rw [nx] at k; exact k)
  | ladd =>
    have nx : zpc m (i + 1) = pc + 1 := by simpa [zfall, zn] using hn
    obtain ⟨x, y, r, rfl, h⟩ := zk2l_e h
    exact lv_ladd hx hb hd (by have k := h p e R s mm args below meth c A H locs ls hO hA hP hD hS hlv; rw [nx] at k; exact k)
  | lmul =>
    have nx : zpc m (i + 1) = pc + 1 := by simpa [zfall, zn] using hn
    obtain ⟨x, y, r, rfl, h⟩ := zk2l_e h
    exact lv_lmul hx hb hd (by have k := h p e R s mm args below meth c A H locs ls hO hA hP hD hS hlv; rw [nx] at k; exact k)
  | land =>
    have nx : zpc m (i + 1) = pc + 1 := by simpa [zfall, zn] using hn
    obtain ⟨x, y, r, rfl, h⟩ := zk2l_e h
    exact lv_land hx hb hd (by have k := h p e R s mm args below meth c A H locs ls hO hA hP hD hS hlv; rw [nx] at k; exact k)
  | lor =>
    have nx : zpc m (i + 1) = pc + 1 := by simpa [zfall, zn] using hn
    obtain ⟨x, y, r, rfl, h⟩ := zk2l_e h
    exact lv_lor hx hb hd (by have k := h p e R s mm args below meth c A H locs ls hO hA hP hD hS hlv; rw [nx] at k; exact k)
  | lcmp =>
    have nx : zpc m (i + 1) = pc + 1 := by simpa [zfall, zn] using hn
    obtain ⟨x, y, r, rfl, h⟩ := zk2l_e h
    exact W.lcmp hx hb hd (by have k := h p e R s mm args below meth c A H locs ls hO hA hP hD hS hlv; rw [nx] at k; exact k)
  | lshl =>
    have nx : zpc m (i + 1) = pc + 1 := by simpa [zfall, zn] using hn
    obtain ⟨x, y, r, rfl, h⟩ := zkil_e h
    exact lv_lshl hx hb hd rfl (by have k := h p e R s mm args below meth c A H locs ls hO hA hP hD hS hlv; rw [nx] at k; exact k)
  | lshr =>
    have nx : zpc m (i + 1) = pc + 1 := by simpa [zfall, zn] using hn
    obtain ⟨x, y, r, rfl, h⟩ := zkil_e h
    exact lv_lshr hx hb hd rfl (by have k := h p e R s mm args below meth c A H locs ls hO hA hP hD hS hlv; rw [nx] at k; exact k)
  | lushr =>
    have nx : zpc m (i + 1) = pc + 1 := by simpa [zfall, zn] using hn
    obtain ⟨x, y, r, rfl, h⟩ := zkil_e h
    exact lv_lushr hx hb hd rfl (by have k := h p e R s mm args below meth c A H locs ls hO hA hP hD hS hlv; rw [nx] at k; exact k)
  | dup =>
    have nx : zpc m (i + 1) = pc + 1 := by simpa [zfall, zn] using hn
    obtain ⟨v, r, rfl, hc, h⟩ := zkv_e h
    exact lv_dup hx hb hd (by rw [zv_cat]; exact hc) (by have k := h p e R s mm args below meth c A H locs ls hO hA hP hD hS hlv; rw [nx] at k; exact k)
  | dup2 =>
    have nx : zpc m (i + 1) = pc + 1 := by simpa [zfall, zn] using hn
    obtain ⟨v, r, rfl, h⟩ := zkv_e h
    obtain ⟨w, q, rfl, hc, hc2, h⟩ := zkv_e h
    exact lv_dup2_11 hx hb hd (by rw [zv_cat]; exact hc) (by rw [zv_cat]; exact hc2) (by have k := h p e R s mm args below meth c A H locs ls hO hA hP hD hS hlv; rw [nx] at k; exact k)
  | pop =>
    have nx : zpc m (i + 1) = pc + 1 := by simpa [zfall, zn] using hn
    obtain ⟨v, r, rfl, hc, h⟩ := zkv_e h
    exact lv_pop hx hb hd (by rw [zv_cat]; exact hc) (by have k := h p e R s mm args below meth c A H locs ls hO hA hP hD hS hlv; rw [nx] at k; exact k)
  | goto off =>
    have ht : (pc : Int) + off = (zpc m (zL L 0) : Int) := by simpa [zlk] using hl
    exact lv_goto hx hb hd ht (h p e R s mm args below meth c A H locs ls hO hA hP hD hS hlv)
  | ifCond cd off =>
    have nx : zpc m (i + 1) = pc + 3 := by simpa [zfall, zn] using hn
    have ht : (pc : Int) + off = (zpc m (zL L 0) : Int) := by simpa [zlk] using hl
    obtain ⟨x, r, rfl, h⟩ := zk1_e h
    cases cd with
    | eq => exact lv_if_eq hx hb hd ht (fun hc => h.1 hc p e R s mm args below meth c A H locs ls hO hA hP hD hS hlv) (fun hc => by have k := h.2 hc p e R s mm args below meth c A H locs ls hO hA hP hD hS hlv; rw [nx] at k; exact k)
    | ne => exact lv_if_ne hx hb hd ht (fun hc => h.1 hc p e R s mm args below meth c A H locs ls hO hA hP hD hS hlv) (fun hc => by have k := h.2 (fun q => q hc) p e R s mm args below meth c A H locs ls hO hA hP hD hS hlv; rw [nx] at k; exact k)
    | lt => exact lv_if_lt hx hb hd ht (fun hc => h.1 hc p e R s mm args below meth c A H locs ls hO hA hP hD hS hlv) (fun hc => by have k := h.2 hc p e R s mm args below meth c A H locs ls hO hA hP hD hS hlv; rw [nx] at k; exact k)
    | ge => exact lv_if_ge hx hb hd ht (fun hc => h.1 hc p e R s mm args below meth c A H locs ls hO hA hP hD hS hlv) (fun hc => by have k := h.2 hc p e R s mm args below meth c A H locs ls hO hA hP hD hS hlv; rw [nx] at k; exact k)
    | gt => exact lv_if_gt hx hb hd ht (fun hc => h.1 hc p e R s mm args below meth c A H locs ls hO hA hP hD hS hlv) (fun hc => by have k := h.2 hc p e R s mm args below meth c A H locs ls hO hA hP hD hS hlv; rw [nx] at k; exact k)
    | le => exact lv_if_le hx hb hd ht (fun hc => h.1 hc p e R s mm args below meth c A H locs ls hO hA hP hD hS hlv) (fun hc => by have k := h.2 hc p e R s mm args below meth c A H locs ls hO hA hP hD hS hlv; rw [nx] at k; exact k)
  | if_icmp cd off =>
    have nx : zpc m (i + 1) = pc + 3 := by simpa [zfall, zn] using hn
    have ht : (pc : Int) + off = (zpc m (zL L 0) : Int) := by simpa [zlk] using hl
    obtain ⟨x, y, r, rfl, h⟩ := zk2_e h
    cases cd with
    | eq => exact lv_icmp_eq hx hb hd ht (fun hc => h.1 hc p e R s mm args below meth c A H locs ls hO hA hP hD hS hlv) (fun hc => by have k := h.2 hc p e R s mm args below meth c A H locs ls hO hA hP hD hS hlv; rw [nx] at k; exact k)
    | ne => exact lv_icmp_ne hx hb hd ht (fun hc => h.1 hc p e R s mm args below meth c A H locs ls hO hA hP hD hS hlv) (fun hc => by have k := h.2 (fun q => q hc) p e R s mm args below meth c A H locs ls hO hA hP hD hS hlv; rw [nx] at k; exact k)
    | lt => exact lv_icmp_lt hx hb hd ht (fun hc => h.1 hc p e R s mm args below meth c A H locs ls hO hA hP hD hS hlv) (fun hc => by have k := h.2 hc p e R s mm args below meth c A H locs ls hO hA hP hD hS hlv; rw [nx] at k; exact k)
    | ge => exact lv_icmp_ge hx hb hd ht (fun hc => h.1 hc p e R s mm args below meth c A H locs ls hO hA hP hD hS hlv) (fun hc => by have k := h.2 hc p e R s mm args below meth c A H locs ls hO hA hP hD hS hlv; rw [nx] at k; exact k)
    | gt => exact lv_icmp_gt hx hb hd ht (fun hc => h.1 hc p e R s mm args below meth c A H locs ls hO hA hP hD hS hlv) (fun hc => by have k := h.2 hc p e R s mm args below meth c A H locs ls hO hA hP hD hS hlv; rw [nx] at k; exact k)
    | le => exact lv_icmp_le hx hb hd ht (fun hc => h.1 hc p e R s mm args below meth c A H locs ls hO hA hP hD hS hlv) (fun hc => by have k := h.2 hc p e R s mm args below meth c A H locs ls hO hA hP hD hS hlv; rw [nx] at k; exact k)
  | ifnull off =>
    have nx : zpc m (i + 1) = pc + 3 := by simpa [zfall, zn] using hn
    have ht : (pc : Int) + off = (zpc m (zL L 0) : Int) := by simpa [zlk] using hl
    obtain ⟨v, r, rfl, h1, h2, hv⟩ := zkv_e h
    rcases hv with rfl | ⟨b, rfl⟩
    · exact lv_ifnullN hx hb hd ht (h1 rfl p e R s mm args below meth c A H locs ls hO hA hP hD hS hlv)
    · exact lv_ifnull hx hb hd (by have k := h2 b rfl p e R s mm args below meth c A H locs ls hO hA hP hD hS hlv; rw [nx] at k; exact k)
  | ifnonnull off =>
    have nx : zpc m (i + 1) = pc + 3 := by simpa [zfall, zn] using hn
    have ht : (pc : Int) + off = (zpc m (zL L 0) : Int) := by simpa [zlk] using hl
    obtain ⟨v, r, rfl, h1, h2, hv⟩ := zkv_e h
    rcases hv with rfl | ⟨b, rfl⟩
    · exact lv_ifnonnullN hx hb hd (by have k := h1 rfl p e R s mm args below meth c A H locs ls hO hA hP hD hS hlv; rw [nx] at k; exact k)
    · exact lv_ifnonnull hx hb hd ht (h2 b rfl p e R s mm args below meth c A H locs ls hO hA hP hD hS hlv)
  | tableswitch dflt lo hi offs =>
    obtain ⟨x, r, rfl, h1, h2⟩ := zk1_e h
    simp only [zlk, Bool.and_eq_true, decide_eq_true_eq] at hl
    obtain ⟨hl1, hl2⟩ := hl
    by_cases hin : x.toInt < lo ∨ hi < x.toInt
    · exact lv_tableOut hx hb hd hin hl1 (h1 hin p e R s mm args below meth c A H locs ls hO hA hP hD hS hlv)
    · have a1 : ¬ x.toInt < lo := fun q => hin (Or.inl q)
      have a2 : ¬ hi < x.toInt := fun q => hin (Or.inr q)
      have h3 := List.all_eq_true.mp hl2 (x.toInt - lo).toNat (List.mem_range.mpr (by omega))
      cases ho : offs[(x.toInt - lo).toNat]? with
      | none => rw [ho] at h3; cases h3
      | some off =>
        rw [ho] at h3
        exact lv_tableIn hx hb hd a1 a2 ho (by simpa using h3) (h2 a1 a2 p e R s mm args below meth c A H locs ls hO hA hP hD hS hlv)
  | getfield k =>
    have nx : zpc m (i + 1) = pc + 3 := by simpa [zfall, zn] using hn
    obtain ⟨b, r, rfl, v, hf, h⟩ := zkr_e h
    simp only [zlk, Bool.and_eq_true, decide_eq_true_eq] at hl
    obtain ⟨hl1, hl2⟩ := hl
    unfold zf at hf
    split at hf
    · rename_i ci fl hly
      split at hf
      · rename_i hci
        subst hci
        cases hfl : fl[zL L 1]? with
        | none => rw [hfl] at hf; cases hf
        | some o =>
          rw [hfl] at hf
          unfold zfl at hl1 hl2
          cases hcl : vwCl[zL L 0]? with
          | none => rw [hcl] at hl1; exact absurd rfl hl1
          | some q =>
            simp only [hcl] at hl1 hl2
            split at hl1
            · rename_i hk
              rw [if_pos hk] at hl2
              obtain ⟨hin, -, -⟩ := zcl_sp _ q hcl
              refine va_get (C := q.1) (T := q.2.1) (N := q.2.2) hx hb hts hin hown hK hP b (zW_get hly) hcl (zL L 1) hk (hts _ (zin hl2 rfl)) (fun _ h => h) (v := zv ad v) ?_ hd (by have k := h p e R s mm args below meth c A H locs ls hO hA hP hD hS hlv; rw [nx] at k; exact k)
              rw [List.getElem?_mapIdx, hfl]
              cases o with
              | none => cases hf; rfl
              | some w => cases hf; rfl
            · exact absurd rfl hl1
      · cases hf
    · cases hf
  | putfield k =>
    have nx : zpc m (i + 1) = pc + 3 := by simpa [zfall, zn] using hn
    obtain ⟨x, b, r, rfl, hf, hty, h⟩ := zkir_e h
    simp only [zlk, Bool.and_eq_true, decide_eq_true_eq, Bool.not_eq_true'] at hl
    obtain ⟨⟨hl1, hl2⟩, hl3⟩ := hl
    unfold zfi at hf
    split at hf
    · rename_i ci fl hly
      simp only [Bool.and_eq_true, beq_iff_eq] at hf
      obtain ⟨hci, hfl⟩ := hf
      subst hci
      unfold zfl at hl1 hl2
      unfold zfd at hty
      unfold zfin at hl3
      cases hcl : vwCl[zL L 0]? with
      | none => rw [hcl] at hl1; exact absurd rfl hl1
      | some q =>
        simp only [hcl] at hl1 hl2 hl3 hty
        split at hl1
        · rename_i hk
          rw [if_pos hk] at hl2
          obtain ⟨hin, ⟨ty, hty2⟩, hnm⟩ := zcl_sp _ q hcl
          have hfn : narrow (ty (zL L 1)) (.int x) = .int x ∧ fits (ty (zL L 1)) (.int x) = true := by
            have hp := hty2 _ hk
            rcases hty with hz | ⟨hz, hx01⟩
            · rw [hz] at hp
              have e1 : ty (zL L 1) = .int := (Option.some.inj ((by decide +kernel : parseFieldDescriptor "I" = some .int).symm.trans hp)).symm
              rw [e1]
              exact ⟨rfl, rfl⟩
            · rw [hz] at hp
              have e1 : ty (zL L 1) = .boolean := (Option.some.inj ((by decide +kernel : parseFieldDescriptor "Z" = some .boolean).symm.trans hp)).symm
              rw [e1]
              rcases hx01 with rfl | rfl <;> exact ⟨by decide +kernel, by decide +kernel⟩
          have hlen : zL L 1 < (fl.mapIdx (fun j o => match o with | some r => Value.ref (ad r) | none => .int (σ b j))).length := by
            rw [List.length_mapIdx]
            exact (List.getElem?_eq_some_iff.mp hfl).1
          refine va_put (v := .int x) (C := q.1) (T := q.2.1) (N := q.2.2) hx hb hts hin ty hty2 hnm hown hK hP hD hS b (zW_get hly) hcl (zL L 1) hk (hts _ (zin hl2 rfl)) (fun _ h => h) hl3 (hty2 _ hk) hfn.1 hfn.2 hlen hd (fun H1 locs1 hP1 hD1 hS1 => ?_)
          have hset : (zW ad cA cS σ).set b (ad b, .inr (zL L 0, (fl.mapIdx (fun j o => match o with | some r => Value.ref (ad r) | none => .int (σ b j))).set (zL L 1) (.int x))) = zW ad cA cS (zu σ b (zL L 1) x) := by
            refine Eq.trans ?_ (zW_set hly (fun k hk => zu_ne hk))
            congr 2
            unfold zce
            congr 2
            refine List.ext_getElem? fun j => ?_
            rw [List.getElem?_set, List.getElem?_mapIdx, List.getElem?_mapIdx]
            by_cases hj : zL L 1 = j
            · subst hj
              rw [if_pos rfl, if_pos hlen, hfl]
              show _ = some (Value.int (zu σ b (zL L 1) x b (zL L 1)))
              rw [zu_eq]
              simp [upd]
            · rw [if_neg hj]
              cases fl[j]? with
              | none => rfl
              | some o =>
                cases o with
                | some w => rfl
                | none =>
                  show some (Value.int (σ b j)) = some (Value.int (zu σ b (zL L 1) x b j))
                  rw [zu_eq]
                  simp [upd, Ne.symm hj]
          rw [hset] at hP1 hD1
          have k := h p e R s mm args below meth c A H1 locs1 ls hO hA hP1 hD1 hS1 hlv
          rw [nx] at k
          exact k
        · exact absurd rfl hl1
    · cases hf
  | iaload =>
    have nx : zpc m (i + 1) = pc + 1 := by simpa [zfall, zn] using hn
    obtain ⟨x, b, r, rfl, n, hly, hin, h⟩ := zkir_e h
    exact va_iald hx hb hK hP b 0 (zW_get hly) rfl hin hd (by have k := h p e R s mm args below meth c A H locs ls hO hA hP hD hS hlv; rw [nx] at k; exact k)
  | iastore =>
    have nx : zpc m (i + 1) = pc + 1 := by simpa [zfall, zn] using hn
    obtain ⟨x, j, b, r, rfl, n, hly, hin, h⟩ := zkiir_e h
    refine va_iast hx hb hK hP hD hS b 0 (zW_get hly) rfl hin hd (fun H1 locs1 hP1 hD1 hS1 => ?_)
    have hset : (zW ad cA cS σ).set b (ad b, .inl (cA, n, .inl (upd (σ b) j.toNatClampNeg x))) = zW ad cA cS (zu σ b j.toNatClampNeg x) := by
      refine Eq.trans ?_ (zW_set hly (fun k hk => zu_ne hk))
      unfold zce
      rw [zu_eq]
    rw [hset] at hP1 hD1
    have k := h p e R s mm args below meth c A H1 locs1 ls hO hA hP1 hD1 hS1 hlv
    rw [nx] at k
    exact k
  | aaload =>
    have nx : zpc m (i + 1) = pc + 1 := by simpa [zfall, zn] using hn
    obtain ⟨x, b, r, rfl, rs, q, hly, hin, hq, h⟩ := zkir_e h
    refine va_aldq hx hb hK hP b 1 (zW_get hly) rfl hin hd ?_
    rw [hq]
    exact (by have k := h p e R s mm args below meth c A H locs ls hO hA hP hD hS hlv; rw [nx] at k; exact k)
  | arraylength =>
    have nx : zpc m (i + 1) = pc + 1 := by simpa [zfall, zn] using hn
    obtain ⟨b, r, rfl, n, hly, h⟩ := zkr_e h
    rcases hly with hly | ⟨rs, hly, rfl⟩
    · exact va_alen hx hb hK hP b 0 (zW_get hly) rfl rfl hd (by have k := h p e R s mm args below meth c A H locs ls hO hA hP hD hS hlv; rw [nx] at k; exact k)
    · exact va_alen hx hb hK hP b 1 (zW_get hly) rfl rfl hd (by have k := h p e R s mm args below meth c A H locs ls hO hA hP hD hS hlv; rw [nx] at k; exact k)
  | ireturn =>
    obtain ⟨x, r, rfl, rfl, hty, h⟩ := zk1_e h
    have post : ∀ t : State, t.heap = H → s.WarmedH t.vm → zPo D ad cA cS Q A args s (.returned (some (.int x))) t := fun t ht hW => ⟨⟨some (.int x), σ, rfl, h, by rw [ht]; exact hP, va_K.moved hW.alike hK, fun a i x h hh => va_Nw.warmM hW (hNs a i x h hh), hD⟩, hS.F ht⟩
    rcases hty with hty | ⟨hty, hx01⟩
    · exact W.iret hx hb (hr.trans hty) post hS.2.2 hd
    · exact W.zret hx hb (hr.trans hty) (by rcases hx01 with rfl | rfl <;> decide +kernel) post hS.2.2 hd
  | areturn =>
    obtain ⟨v, r, rfl, rfl, hv, hty, h⟩ := zkv_e h
    have post : ∀ t : State, t.heap = H → s.WarmedH t.vm → zPo D ad cA cS Q A args s (.returned (some (zv ad v))) t := fun t ht hW => ⟨⟨some v, σ, rfl, h, by rw [ht]; exact hP, va_K.moved hW.alike hK, fun a i x h hh => va_Nw.warmM hW (hNs a i x h hh), hD⟩, hS.F ht⟩
    exact W.aret hx hb (hr.trans hty) (Or.inl ⟨_, rfl⟩) (by rcases hv with rfl | ⟨b, rfl⟩; exact Or.inl rfl; exact Or.inr ⟨_, rfl⟩) post hS.2.2 hd
  | return_ =>
    obtain ⟨rfl, hty, h⟩ := h
    have post : ∀ t : State, t.heap = H → s.WarmedH t.vm → zPo D ad cA cS Q A args s (.returned none) t := fun t ht hW => ⟨⟨none, σ, rfl, h, by rw [ht]; exact hP, va_K.moved hW.alike hK, fun a i x h hh => va_Nw.warmM hW (hNs a i x h hh), hD⟩, hS.F ht⟩
    exact W.vret hx hb (hr.trans hty) post hS.2.2 hd
  | invokevirtual k =>
    have nx : zpc m (i + 1) = pc + 3 := by simpa [zfall, zn] using hn
    obtain ⟨b, as, rest, rfl, hlen, hfit, hcls, hcat, d', rfl, Q', h1, h2⟩ := h
    simp only [zlk, Bool.and_eq_true, decide_eq_true_eq] at hl
    obtain ⟨⟨⟨⟨l1, l2⟩, l3⟩, l4⟩, l5⟩ := hl
    obtain ⟨n1, n2, n3, n4, n5, n6⟩ := zokN_sp l4
    have hM := zMet l4 hfit h1 H.size
    have hcl : ∃ q fl, vwCl[zci (zL L 0)]? = some q ∧ q.1 = zo (zL L 0) ∧ zLy[b]? = some (.inr (.inl (zci (zL L 0), fl))) := by
      have h6 := n6 l5
      cases hq : vwCl[zci (zL L 0)]? with
      | none => rw [hq] at h6; cases h6
      | some q =>
        rw [hq] at h6
        unfold zcls at hcls
        split at hcls
        · rename_i ci fl hly
          subst hcls
          exact ⟨q, fl, rfl, Option.some.inj h6, hly⟩
        · omega
    obtain ⟨q, fl, hq1, hq2, hq3⟩ := hcl
    have hrv := va_recv hK hP hq1 (zW_get hq3)
    rw [hq2] at hrv
    refine zgo (rest := rest.map (zv ad)) (va_runV (As := as.map (zv ad)) (b := ad b) (C := zo (zL L 0)) (index := k) (bytes := zb (zL L 0)) (maxL := zl (zL L 0)) (ret := zr (zL L 0)) (n := znp (zL L 0)) (cc := zb m) (nL := zl m) (own := zo m) ⟨hx, hb, hml, hown, hts⟩ hM ⟨callB_of _ hts (fun w hw => ?_) rfl rfl rfl (hts _ n2) (hts _ (zin l1 rfl)) n4 ⟨by show d' + 1 ≤ _; exact hRf0, by show 8 + (zl (zL L 0) + 11) + 32 * d' ≤ _; omega⟩, hts _ (zin l2 rfl), hts _ (zin l3 rfl)⟩ ⟨zblind, hrv, fun U hU hW => zpre hP hD hK hNs hU hW⟩ rfl (by rw [List.length_map]; exact hlen) hlv.1 (by simp [zv]) (lv_room (by rw [zcat_map]; exact hcat)) hd ⟨Nat.zero_le _, Nat.zero_le _⟩) hS (zfree (D := D) hD hS hA) (fun r σ' H1 locs1 hq hP1 hD1 hS1 => ?_)
    · rcases List.mem_cons.mp hw with rfl | hw
      · exact zTb_good _ n1
      · exact zTb_good _ hw
    · have kk := h2 r σ' hq p e R s mm args below meth c A H1 locs1 ls hO hA hP1 hD1 hS1 hlv
      rw [nx] at kk
      cases r <;> simpa using kk
  | invokestatic k =>
    have nx : zpc m (i + 1) = pc + 3 := by simpa [zfall, zn] using hn
    by_cases h9 : zL L 0 = 999
    · simp only [zI, if_pos h9] at h
      simp only [zlk, if_pos h9, Bool.and_eq_true, decide_eq_true_eq] at hl
      obtain ⟨⟨⟨l1, l2⟩, l3⟩, l4⟩ := hl
      obtain ⟨n, dp, b, sp, a, r, rfl, n0, n1, hy0, hy1, g1, g2, g3, g4, g5, g6, g7, h⟩ := zkcp_e h
      refine va_copyi hx hb (hml.trans hlv.1.symm) hown (hts _ (zin l1 rfl)) (hts _ (zin l2 rfl)) (hts _ (zin l3 rfl)) (hts _ (zin l4 rfl)) hK hP hD hS a b 0 0 (zW_get hy0) (zW_get hy1) rfl rfl rfl g1 g2 g3 g4 g5 (fun _ _ => rfl) (by omega) ?_ hd (fun H1 locs1 hP1 hD1 hS1 => ?_)
      · rw [zcat_map]
        have : nativeFrameWords "java/lang/System" "arraycopy" 5 ≤ 13 := by decide +kernel
        omega
      · have hset : (zW ad cA cS σ).set b (ad b, .inl (cA, n1, .inl (va_cpy (σ a) (σ b) sp.toNatClampNeg dp.toNatClampNeg n.toNatClampNeg))) = zW ad cA cS (zcp σ a b sp.toNatClampNeg dp.toNatClampNeg n.toNatClampNeg) := by
          refine Eq.trans ?_ (zW_set hy1 (fun k hk => zcp_ne hk))
          unfold zce
          rw [zcp_eq]
        rw [hset] at hP1 hD1
        have k := h p e R s mm args below meth c A H1 locs1 ls hO hA hP1 hD1 hS1 hlv
        rw [nx] at k
        exact k
    · simp only [zI, if_neg h9] at h
      simp only [zlk, if_neg h9, Bool.and_eq_true, decide_eq_true_eq] at hl
      obtain ⟨⟨l1, l2⟩, l4⟩ := hl
      obtain ⟨as, rest, rfl, hlen, hfit, hcat, d', rfl, Q', h1, h2⟩ := h
      obtain ⟨n1, n2, n3, n4, n5, n6⟩ := zokN_sp l4
      have hM := zMet l4 hfit h1 H.size
      have hG : GoodIn zTb (zws (zL L 0)) := fun w hw => by
        rcases List.mem_cons.mp hw with rfl | hw
        · exact zTb_good _ n1
        · exact zTb_good _ hw
      have hRun : va_Run p l e R s mm args below meth c H locs 0 0 0 0 (F0 mm pc ls ((as.reverse ++ rest).map (zv ad))) (rest.map (zv ad)) (zPo D ad cA cS Q' (va_A (zW ad cA cS σ) H.size) (as.map (zv ad)).toArray) (va_A (zW ad cA cS σ) H.size) := by
        rcases l1 with l1 | l1
        · exact va_runS (As := as.map (zv ad)) (index := k) (bytes := zb (zL L 0)) (maxL := zl (zL L 0)) (ret := zr (zL L 0)) (n := znp (zL L 0)) (cc := zb m) (nL := zl m) (own := zo m) ⟨hx, hb, hml, hown, hts⟩ hM ⟨callB_of _ hts hG rfl rfl rfl (hts _ n2) (hts _ (zin l1 rfl)) n4 ⟨by show d' + 1 ≤ _; exact hRf0, by show 8 + (zl (zL L 0) + 11) + 32 * d' ≤ _; omega⟩, hts _ (zin l2 rfl)⟩ ⟨zblind, fun U hU hW => zpre hP hD hK hNs hU hW⟩ rfl (by rw [List.length_map]; exact hlen) hlv.1 (by simp) (lv_room (by rw [zcat_map]; exact hcat)) hd ⟨Nat.zero_le _, Nat.zero_le _⟩
        · exact va_runSN (As := as.map (zv ad)) (index := k) (bytes := zb (zL L 0)) (maxL := zl (zL L 0)) (ret := zr (zL L 0)) (n := znp (zL L 0)) (cc := zb m) (nL := zl m) (own := zo m) (host := "ToothStones") ⟨hx, hb, hml, hown, hts⟩ hM ⟨va_cnB _ hts hG rfl rfl rfl (hNs _ _ _ _ (List.mem_of_getElem? l1)) (hts _ n2) n4 ⟨by show d' + 1 ≤ _; exact hRf0, by show 8 + (zl (zL L 0) + 11) + 32 * d' ≤ _; omega⟩, hts _ (zin l2 rfl), trivial⟩ ⟨zblind, fun U hU hW => zpre hP hD hK hNs hU hW⟩ rfl (by rw [List.length_map]; exact hlen) hlv.1 (by simp) (lv_room (by rw [zcat_map]; exact hcat)) hd ⟨Nat.zero_le _, Nat.zero_le _⟩
      refine zgo (rest := rest.map (zv ad)) hRun hS (zfree (D := D) hD hS hA) (fun r σ' H1 locs1 hq hP1 hD1 hS1 => ?_)
      have kk := h2 r σ' hq p e R s mm args below meth c A H1 locs1 ls hO hA hP1 hD1 hS1 hlv
      rw [nx] at kk
      cases r <;> simpa using kk
  | _ => exact h.elim
end
section
/-! rules of the small machine over whole numbers: zi n is the int of n -/
abbrev zMI := Nat → Nat → Int
def zi (n : Int) : Int32 := Int32.ofInt n
def zj (n : Int) : Int64 := Int64.ofInt n
theorem zi_add (a b : Int) : zi a + zi b = zi (a + b) := (Int32.ofInt_add a b).symm
theorem zi_sub (a b : Int) : zi a - zi b = zi (a - b) := (Int32.ofInt_sub a b).symm
theorem zi_mul (a b : Int) : zi a * zi b = zi (a * b) := (Int32.ofInt_mul a b).symm
theorem zi_neg (a : Int) : -zi a = zi (-a) := (Int32.ofInt_neg a).symm
theorem zi_toInt {a : Int} (h : -2147483648 ≤ a ∧ a < 2147483648) : (zi a).toInt = a := Int32.toInt_ofInt_of_le (by simpa using h.1) (by simpa using h.2)
theorem zi_of (x : Int32) : zi x.toInt = x := Int32.ofInt_toInt x
theorem zi_rng (x : Int32) : -2147483648 ≤ x.toInt ∧ x.toInt < 2147483648 := by
  have h1 := Int32.le_toInt x
  have h2 := Int32.toInt_lt x
  constructor
  · simpa using h1
  · simpa using h2
theorem zi_inj {a b : Int} (h : (-2147483648 ≤ a ∧ a < 2147483648) ∧ (-2147483648 ≤ b ∧ b < 2147483648)) : zi a = zi b ↔ a = b := by
  refine ⟨fun e => ?_, fun e => by rw [e]⟩
  have e1 := congrArg Int32.toInt e
  rwa [zi_toInt h.1, zi_toInt h.2] at e1
theorem zi_lt {a b : Int} (h : (-2147483648 ≤ a ∧ a < 2147483648) ∧ (-2147483648 ≤ b ∧ b < 2147483648)) : zi a < zi b ↔ a < b := by
  rw [Int32.lt_iff_toInt_lt, zi_toInt h.1, zi_toInt h.2]
theorem zi_le {a b : Int} (h : (-2147483648 ≤ a ∧ a < 2147483648) ∧ (-2147483648 ≤ b ∧ b < 2147483648)) : zi a ≤ zi b ↔ a ≤ b := by
  rw [Int32.le_iff_toInt_le, zi_toInt h.1, zi_toInt h.2]
theorem zi_0 : zi 0 = 0 := rfl
theorem zi_1 : zi 1 = 1 := rfl
theorem zi_clamp {a : Int} {n : Nat} (h : a = n) (hn : n < 2147483648) : (zi a).toNatClampNeg = n := by
  show (zi a).toInt.toNat = n
  rw [zi_toInt (by omega)]
  omega
theorem zi_in {a : Int} {n N : Nat} (h : a = n) (hn : n < N) (hN : N < 2147483648) : vp_in (zi a) N := by
  rw [vp_in_iff, zi_toInt (by omega)]
  omega
theorem zi_div {a b : Int} (ha : -2147483648 < a ∧ a < 2147483648) (hb : 0 < b ∧ b < 2147483648) : zi a / zi b = zi (a.tdiv b) := by
  rw [← Int32.toInt_inj, Int32.toInt_div, zi_toInt (by omega), zi_toInt (by omega)]
  have h1 : (a.tdiv b).natAbs ≤ a.natAbs := Int.natAbs_tdiv_le_natAbs a b
  rw [zi_toInt (by omega)]
  exact Int.bmod_eq_of_le (by simp; omega) (by simp; omega)
theorem zi_rem {a b : Int} (ha : -2147483648 < a ∧ a < 2147483648) (hb : 0 < b ∧ b < 2147483648) : zi a - zi a / zi b * zi b = zi (a.tmod b) := by
  rw [zi_div ha hb, zi_mul, zi_sub]
  congr 1
  have := Int.mul_tdiv_add_tmod a b
  rw [Int.mul_comm]
  omega
theorem zj_toInt {a : Int} (h : -9223372036854775808 ≤ a ∧ a < 9223372036854775808) : (zj a).toInt = a := Int64.toInt_ofInt_of_le (by simpa using h.1) (by simpa using h.2)
theorem zj_of (x : Int64) : zj x.toInt = x := Int64.ofInt_toInt x
theorem zj_rng (x : Int64) : -9223372036854775808 ≤ x.toInt ∧ x.toInt < 9223372036854775808 := by
  have h1 := Int64.le_toInt x
  have h2 := Int64.toInt_lt x
  constructor
  · simpa using h1
  · simpa using h2
theorem zi_l {a : Int} (h : -2147483648 ≤ a ∧ a < 2147483648) : (zi a).toInt64 = zj a := by
  rw [← Int64.toInt_inj, Int32.toInt_toInt64, zi_toInt h, zj_toInt (by omega)]
theorem zj_add (a b : Int) : zj a + zj b = zj (a + b) := (Int64.ofInt_add a b).symm
theorem zj_mul (a b : Int) : zj a * zj b = zj (a * b) := (Int64.ofInt_mul a b).symm
theorem zi_b8 : ∀ n : Int, -128 ≤ n ∧ n < 128 → (Int8.ofInt n).toInt32 = zi n := by
  intro n h
  rw [← Int32.toInt_inj, Int8.toInt_toInt32, Int8.toInt_ofInt_of_le (by simpa using h.1) (by simpa using h.2), zi_toInt (by omega)]
theorem zi_s16 : ∀ n : Int, -32768 ≤ n ∧ n < 32768 → (Int16.ofInt n).toInt32 = zi n := by
  intro n h
  rw [← Int32.toInt_inj, Int16.toInt_toInt32, Int16.toInt_ofInt_of_le (by simpa using h.1) (by simpa using h.2), zi_toInt (by omega)]
def zlf (t : zMI) : zM := fun k j => zi (t k j)
def zup (t : zMI) (b n : Nat) (v : Int) : zMI := fun k j => if k = b then (if j = n then v else t k j) else t k j
def zcpi (t : zMI) (a b n : Nat) : zMI := fun k j => if k = b then (if j < n then t a j else t k j) else t k j
theorem zlf_up (t : zMI) (b n : Nat) (v : Int) : zu (zlf t) b n (zi v) = zlf (zup t b n v) := by
  funext k j
  unfold zu zlf zup upd
  by_cases h : k = b
  · subst h
    rw [if_pos rfl, if_pos rfl]
    by_cases h2 : j = n
    · rw [if_pos h2, if_pos h2]
    · rw [if_neg h2, if_neg h2]
  · rw [if_neg h, if_neg h]
theorem zlf_cp (t : zMI) (a b n : Nat) : zcp (zlf t) a b 0 0 n = zlf (zcpi t a b n) := by
  funext k j
  unfold zcp zlf zcpi va_cpy
  by_cases h : k = b
  · subst h
    rw [if_pos rfl, if_pos rfl]
    by_cases h2 : j < n
    · rw [if_pos ⟨Nat.zero_le _, by omega⟩, if_pos h2]
      simp
    · rw [if_neg (by omega), if_neg h2]
  · rw [if_neg h, if_neg h]
def zWk (Z : zT) : Prop := ∀ d m i lv lv' st σ Q, (∀ q ∈ lv', q ∈ lv) → Z d m i lv' st σ Q → Z d m i lv st σ Q
/-- what every predicate has that is closed under the steps, and under forgetting locals -/
def ZD : zT := fun d m i lv st σ Q => ∀ Z : zT, zCl Z → zWk Z → Z d m i lv st σ Q
def ZX (d m i : Nat) (lv : List (Nat × Value)) (st : List Value) (t : zMI) (Q : Option Value → zMI → Prop) : Prop := ZD d m i lv st (zlf t) (fun r σ' => ∃ t', σ' = zlf t' ∧ Q r t')
def zKi (K : Int → zMI → Prop) : Option Value → zMI → Prop := fun r t => ∃ v, r = some (.int (zi v)) ∧ K v t
def zKv (K : zMI → Prop) : Option Value → zMI → Prop := fun r t => r = none ∧ K t
def zKr (K : Option Nat → zMI → Prop) : Option Value → zMI → Prop := fun r t => ∃ v : Option Nat, r = some (va_rf v) ∧ K v t
def zat (m i j : Nat) (I : Instr) (L : List Nat) : Prop := (∃ pc, (zP m)[i]? = some (pc, I, L)) ∧ i + 1 = j
theorem zfold {d m i pc : Nat} {I : Instr} {L : List Nat} {lv : List (Nat × Value)} {st : List Value} {σ : zM} {Q : Option Value → zM → Prop} (hc : (zP m)[i]? = some (pc, I, L)) (h : ∀ Z : zT, (zCl Z ∧ zWk Z) → zI Z d m i I L lv st σ Q) : ZD d m i lv st σ Q :=
  fun Z hZ hW => hZ _ _ _ _ _ _ _ (by unfold zst; rw [hc]; exact h Z ⟨hZ, hW⟩)
section
variable {d m i j : Nat} {L : List Nat} {lv : List (Nat × Value)} {st : List Value} {t : zMI} {Q : Option Value → zMI → Prop}
theorem z_sub {lv' : List (Nat × Value)} (ks : List Nat) (hl : lv_pick lv ks = lv') (k : ZX d m i lv' st t Q) : ZX d m i lv st t Q := fun Z hZ hW => hW _ _ _ _ _ _ _ _ (fun q hq => by
  rw [← hl] at hq
  obtain ⟨k, -, hk⟩ := List.mem_filterMap.mp hq
  exact List.mem_of_getElem? hk) (k Z hZ hW)
theorem z_eq {st' : List Value} (h : st = st') (k : ZX d m i lv st' t Q) : ZX d m i lv st t Q := h ▸ k
theorem z_lv {lv' : List (Nat × Value)} (h : lv = lv') (k : ZX d m i lv' st t Q) : ZX d m i lv st t Q := h ▸ k
theorem z_mem {t' : zMI} (h : t = t') (k : ZX d m i lv st t' Q) : ZX d m i lv st t Q := h ▸ k
theorem z_top {a b : Int} (h : a = b) (k : ZX d m i lv (.int (zi b) :: st) t Q) : ZX d m i lv (.int (zi a) :: st) t Q := h ▸ k
theorem z_topr {x : Int32} {b : Int} (h : x = zi b) (k : ZX d m i lv (.int (zi b) :: st) t Q) : ZX d m i lv (.int x :: st) t Q := h ▸ k
theorem z_topl {x : Int64} {b : Int} (h : x = zj b) (k : ZX d m i lv (.long (zj b) :: st) t Q) : ZX d m i lv (.long x :: st) t Q := h ▸ k
theorem z_iconst {n : Int} (hc : zat m i j (.iconst n) L) (k : ZX d m j lv (.int (zi n) :: st) t Q) : ZX d m i lv st t Q := by
  obtain ⟨⟨pc, hc⟩, rfl⟩ := hc
  refine zfold hc (fun Z hZ => ?_)
  exact k Z hZ.1 hZ.2
theorem z_bipush {n : Int} (hc : zat m i j (.bipush n) L) (hn : -128 ≤ n ∧ n < 128) (k : ZX d m j lv (.int (zi n) :: st) t Q) : ZX d m i lv st t Q := by
  obtain ⟨⟨pc, hc⟩, rfl⟩ := hc
  refine zfold hc (fun Z hZ => ?_)
  show Z d m (i + 1) lv (.int (Int8.ofInt n).toInt32 :: st) _ _
  rw [zi_b8 n hn]
  exact k Z hZ.1 hZ.2
theorem z_sipush {n : Int} (hc : zat m i j (.sipush n) L) (hn : -32768 ≤ n ∧ n < 32768) (k : ZX d m j lv (.int (zi n) :: st) t Q) : ZX d m i lv st t Q := by
  obtain ⟨⟨pc, hc⟩, rfl⟩ := hc
  refine zfold hc (fun Z hZ => ?_)
  show Z d m (i + 1) lv (.int (Int16.ofInt n).toInt32 :: st) _ _
  rw [zi_s16 n hn]
  exact k Z hZ.1 hZ.2
theorem z_ldc {x : Nat} {v : Int} (hc : zat m i j (.ldc x) L) (hv : zldc L = v) (k : ZX d m j lv (.int (zi v) :: st) t Q) : ZX d m i lv st t Q := by
  obtain ⟨⟨pc, hc⟩, rfl⟩ := hc
  refine zfold hc (fun Z hZ => ?_)
  subst hv
  exact k Z hZ.1 hZ.2
theorem z_ldc_w {x : Nat} {v : Int} (hc : zat m i j (.ldc_w x) L) (hv : zldc L = v) (k : ZX d m j lv (.int (zi v) :: st) t Q) : ZX d m i lv st t Q := by
  obtain ⟨⟨pc, hc⟩, rfl⟩ := hc
  refine zfold hc (fun Z hZ => ?_)
  subst hv
  exact k Z hZ.1 hZ.2
theorem z_ldc2_w {x : Nat} {v : Int} (hc : zat m i j (.ldc2_w x) L) (hv : zldc L = v) (k : ZX d m j lv (.long (zj v) :: st) t Q) : ZX d m i lv st t Q := by
  obtain ⟨⟨pc, hc⟩, rfl⟩ := hc
  refine zfold hc (fun Z hZ => ?_)
  subst hv
  exact k Z hZ.1 hZ.2
theorem z_lconst {n : Fin 2} {v : Int} (hc : zat m i j (.lconst n) L) (hv : Int64.ofNat (n : Nat) = zj v) (k : ZX d m j lv (.long (zj v) :: st) t Q) : ZX d m i lv st t Q := by
  obtain ⟨⟨pc, hc⟩, rfl⟩ := hc
  refine zfold hc (fun Z hZ => ?_)
  show Z d m (i + 1) lv (.long (Int64.ofNat (n : Nat)) :: st) _ _
  rw [hv]
  exact k Z hZ.1 hZ.2
theorem z_aconst_null (hc : zat m i j .aconst_null L) (k : ZX d m j lv (.null :: st) t Q) : ZX d m i lv st t Q := by
  obtain ⟨⟨pc, hc⟩, rfl⟩ := hc
  refine zfold hc (fun Z hZ => ?_)
  exact k Z hZ.1 hZ.2
theorem z_iload {n : Nat} {x : Int32} (hc : zat m i j (.iload n) L) (hg : zg lv n = some (.int x)) (k : ZX d m j lv (.int x :: st) t Q) : ZX d m i lv st t Q := by
  obtain ⟨⟨pc, hc⟩, rfl⟩ := hc
  refine zfold hc (fun Z hZ => ?_)
  exact ⟨x, hg, k Z hZ.1 hZ.2⟩
theorem z_iload_n {n : Fin 4} {x : Int32} (hc : zat m i j (.iload_n n) L) (hg : zg lv n.val = some (.int x)) (k : ZX d m j lv (.int x :: st) t Q) : ZX d m i lv st t Q := by
  obtain ⟨⟨pc, hc⟩, rfl⟩ := hc
  refine zfold hc (fun Z hZ => ?_)
  exact ⟨x, hg, k Z hZ.1 hZ.2⟩
theorem z_lload {n : Nat} {x : Int64} (hc : zat m i j (.lload n) L) (hg : zg lv n = some (.long x)) (k : ZX d m j lv (.long x :: st) t Q) : ZX d m i lv st t Q := by
  obtain ⟨⟨pc, hc⟩, rfl⟩ := hc
  refine zfold hc (fun Z hZ => ?_)
  exact ⟨x, hg, k Z hZ.1 hZ.2⟩
theorem z_lload_n {n : Fin 4} {x : Int64} (hc : zat m i j (.lload_n n) L) (hg : zg lv n.val = some (.long x)) (k : ZX d m j lv (.long x :: st) t Q) : ZX d m i lv st t Q := by
  obtain ⟨⟨pc, hc⟩, rfl⟩ := hc
  refine zfold hc (fun Z hZ => ?_)
  exact ⟨x, hg, k Z hZ.1 hZ.2⟩
theorem z_aload {n : Nat} {b : Nat} (hc : zat m i j (.aload n) L) (hg : zg lv n = some (.ref b)) (k : ZX d m j lv (.ref b :: st) t Q) : ZX d m i lv st t Q := by
  obtain ⟨⟨pc, hc⟩, rfl⟩ := hc
  refine zfold hc (fun Z hZ => ?_)
  exact ⟨_, hg, Or.inr ⟨_, rfl⟩, k Z hZ.1 hZ.2⟩
theorem z_aloadN {n : Nat} (hc : zat m i j (.aload n) L) (hg : zg lv n = some .null) (k : ZX d m j lv (.null :: st) t Q) : ZX d m i lv st t Q := by
  obtain ⟨⟨pc, hc⟩, rfl⟩ := hc
  refine zfold hc (fun Z hZ => ?_)
  exact ⟨_, hg, Or.inl rfl, k Z hZ.1 hZ.2⟩
theorem z_aload_n {n : Fin 4} {b : Nat} (hc : zat m i j (.aload_n n) L) (hg : zg lv n.val = some (.ref b)) (k : ZX d m j lv (.ref b :: st) t Q) : ZX d m i lv st t Q := by
  obtain ⟨⟨pc, hc⟩, rfl⟩ := hc
  refine zfold hc (fun Z hZ => ?_)
  exact ⟨_, hg, Or.inr ⟨_, rfl⟩, k Z hZ.1 hZ.2⟩
theorem z_aload_nN {n : Fin 4} (hc : zat m i j (.aload_n n) L) (hg : zg lv n.val = some .null) (k : ZX d m j lv (.null :: st) t Q) : ZX d m i lv st t Q := by
  obtain ⟨⟨pc, hc⟩, rfl⟩ := hc
  refine zfold hc (fun Z hZ => ?_)
  exact ⟨_, hg, Or.inl rfl, k Z hZ.1 hZ.2⟩
theorem z_istore {n : Nat} {x : Int32} {lv' : List (Nat × Value)} (hc : zat m i j (.istore n) L) (hl : zs lv n (.int x) = lv') (k : ZX d m j lv' st t Q) : ZX d m i lv (.int x :: st) t Q := by
  obtain ⟨⟨pc, hc⟩, rfl⟩ := hc
  refine zfold hc (fun Z hZ => ?_)
  subst hl
  exact k Z hZ.1 hZ.2
theorem z_istore_n {n : Fin 4} {x : Int32} {lv' : List (Nat × Value)} (hc : zat m i j (.istore_n n) L) (hl : zs lv n.val (.int x) = lv') (k : ZX d m j lv' st t Q) : ZX d m i lv (.int x :: st) t Q := by
  obtain ⟨⟨pc, hc⟩, rfl⟩ := hc
  refine zfold hc (fun Z hZ => ?_)
  subst hl
  exact k Z hZ.1 hZ.2
theorem z_astore {n : Nat} {b : Nat} {lv' : List (Nat × Value)} (hc : zat m i j (.astore n) L) (hl : zs lv n (.ref b) = lv') (k : ZX d m j lv' st t Q) : ZX d m i lv (.ref b :: st) t Q := by
  obtain ⟨⟨pc, hc⟩, rfl⟩ := hc
  refine zfold hc (fun Z hZ => ?_)
  subst hl
  exact ⟨Or.inr ⟨_, rfl⟩, k Z hZ.1 hZ.2⟩
theorem z_astoreN {n : Nat} {lv' : List (Nat × Value)} (hc : zat m i j (.astore n) L) (hl : zs lv n .null = lv') (k : ZX d m j lv' st t Q) : ZX d m i lv (.null :: st) t Q := by
  obtain ⟨⟨pc, hc⟩, rfl⟩ := hc
  refine zfold hc (fun Z hZ => ?_)
  subst hl
  exact ⟨Or.inl rfl, k Z hZ.1 hZ.2⟩
theorem z_astore_n {n : Fin 4} {b : Nat} {lv' : List (Nat × Value)} (hc : zat m i j (.astore_n n) L) (hl : zs lv n.val (.ref b) = lv') (k : ZX d m j lv' st t Q) : ZX d m i lv (.ref b :: st) t Q := by
  obtain ⟨⟨pc, hc⟩, rfl⟩ := hc
  refine zfold hc (fun Z hZ => ?_)
  subst hl
  exact ⟨Or.inr ⟨_, rfl⟩, k Z hZ.1 hZ.2⟩
theorem z_astore_nN {n : Fin 4} {lv' : List (Nat × Value)} (hc : zat m i j (.astore_n n) L) (hl : zs lv n.val .null = lv') (k : ZX d m j lv' st t Q) : ZX d m i lv (.null :: st) t Q := by
  obtain ⟨⟨pc, hc⟩, rfl⟩ := hc
  refine zfold hc (fun Z hZ => ?_)
  subst hl
  exact ⟨Or.inl rfl, k Z hZ.1 hZ.2⟩
theorem z_iinc {n : Nat} {c a : Int} {lv' : List (Nat × Value)} (hc : zat m i j (.iinc n c) L) (hg : zg lv n = some (.int (zi a))) (hl : zs lv n (.int (zi (a + c))) = lv') (k : ZX d m j lv' st t Q) : ZX d m i lv st t Q := by
  obtain ⟨⟨pc, hc⟩, rfl⟩ := hc
  refine zfold hc (fun Z hZ => ?_)
  subst hl
  refine ⟨_, hg, ?_⟩
  show Z d m (i + 1) (zs lv n (.int (zi a + zi c))) st _ _
  rw [zi_add]
  exact k Z hZ.1 hZ.2
theorem z_iadd {a b : Int} (hc : zat m i j .iadd L) (k : ZX d m j lv (.int (zi (a + b)) :: st) t Q) : ZX d m i lv (.int (zi b) :: .int (zi a) :: st) t Q := by
  obtain ⟨⟨pc, hc⟩, rfl⟩ := hc
  refine zfold hc (fun Z hZ => ?_)
  show Z d m (i + 1) lv (.int (zi a + zi b) :: st) _ _
  rw [zi_add]
  exact k Z hZ.1 hZ.2
theorem z_isub {a b : Int} (hc : zat m i j .isub L) (k : ZX d m j lv (.int (zi (a - b)) :: st) t Q) : ZX d m i lv (.int (zi b) :: .int (zi a) :: st) t Q := by
  obtain ⟨⟨pc, hc⟩, rfl⟩ := hc
  refine zfold hc (fun Z hZ => ?_)
  show Z d m (i + 1) lv (.int (zi a - zi b) :: st) _ _
  rw [zi_sub]
  exact k Z hZ.1 hZ.2
theorem z_imul {a b : Int} (hc : zat m i j .imul L) (k : ZX d m j lv (.int (zi (a * b)) :: st) t Q) : ZX d m i lv (.int (zi b) :: .int (zi a) :: st) t Q := by
  obtain ⟨⟨pc, hc⟩, rfl⟩ := hc
  refine zfold hc (fun Z hZ => ?_)
  show Z d m (i + 1) lv (.int (zi a * zi b) :: st) _ _
  rw [zi_mul]
  exact k Z hZ.1 hZ.2
theorem z_idiv {a b : Int} (hc : zat m i j .idiv L) (h : (-2147483648 < a ∧ a < 2147483648) ∧ (0 < b ∧ b < 2147483648)) (k : ZX d m j lv (.int (zi (a.tdiv b)) :: st) t Q) : ZX d m i lv (.int (zi b) :: .int (zi a) :: st) t Q := by
  obtain ⟨⟨pc, hc⟩, rfl⟩ := hc
  refine zfold hc (fun Z hZ => ?_)
  have hb : ¬ zi b = 0 := fun e => by
    have e1 := (zi_inj (a := b) (b := 0) (by omega)).mp e
    omega
  refine ⟨hb, ?_⟩
  rw [zi_div h.1 h.2]
  exact k Z hZ.1 hZ.2
theorem z_irem {a b : Int} (hc : zat m i j .irem L) (h : (-2147483648 < a ∧ a < 2147483648) ∧ (0 < b ∧ b < 2147483648)) (k : ZX d m j lv (.int (zi (a.tmod b)) :: st) t Q) : ZX d m i lv (.int (zi b) :: .int (zi a) :: st) t Q := by
  obtain ⟨⟨pc, hc⟩, rfl⟩ := hc
  refine zfold hc (fun Z hZ => ?_)
  have hb : ¬ zi b = 0 := fun e => by
    have e1 := (zi_inj (a := b) (b := 0) (by omega)).mp e
    omega
  refine ⟨hb, ?_⟩
  rw [zi_rem h.1 h.2]
  exact k Z hZ.1 hZ.2
theorem z_ineg {a : Int} (hc : zat m i j .ineg L) (k : ZX d m j lv (.int (zi (-a)) :: st) t Q) : ZX d m i lv (.int (zi a) :: st) t Q := by
  obtain ⟨⟨pc, hc⟩, rfl⟩ := hc
  refine zfold hc (fun Z hZ => ?_)
  show Z d m (i + 1) lv (.int (-zi a) :: st) _ _
  rw [zi_neg]
  exact k Z hZ.1 hZ.2
theorem z_iand {x y : Int32} {v : Int} (hc : zat m i j .iand L) (hv : x &&& y = zi v) (k : ZX d m j lv (.int (zi v) :: st) t Q) : ZX d m i lv (.int y :: .int x :: st) t Q := by
  obtain ⟨⟨pc, hc⟩, rfl⟩ := hc
  refine zfold hc (fun Z hZ => ?_)
  show Z d m (i + 1) lv (.int (x &&& y) :: st) _ _
  rw [hv]
  exact k Z hZ.1 hZ.2
theorem z_ior {x y : Int32} {v : Int} (hc : zat m i j .ior L) (hv : x ||| y = zi v) (k : ZX d m j lv (.int (zi v) :: st) t Q) : ZX d m i lv (.int y :: .int x :: st) t Q := by
  obtain ⟨⟨pc, hc⟩, rfl⟩ := hc
  refine zfold hc (fun Z hZ => ?_)
  show Z d m (i + 1) lv (.int (x ||| y) :: st) _ _
  rw [hv]
  exact k Z hZ.1 hZ.2
theorem z_ixor {x y : Int32} {v : Int} (hc : zat m i j .ixor L) (hv : x ^^^ y = zi v) (k : ZX d m j lv (.int (zi v) :: st) t Q) : ZX d m i lv (.int y :: .int x :: st) t Q := by
  obtain ⟨⟨pc, hc⟩, rfl⟩ := hc
  refine zfold hc (fun Z hZ => ?_)
  show Z d m (i + 1) lv (.int (x ^^^ y) :: st) _ _
  rw [hv]
  exact k Z hZ.1 hZ.2
theorem z_ishl {x y : Int32} {v : Int} (hc : zat m i j .ishl L) (hv : x <<< (y &&& 31) = zi v) (k : ZX d m j lv (.int (zi v) :: st) t Q) : ZX d m i lv (.int y :: .int x :: st) t Q := by
  obtain ⟨⟨pc, hc⟩, rfl⟩ := hc
  refine zfold hc (fun Z hZ => ?_)
  show Z d m (i + 1) lv (.int (x <<< (y &&& 31)) :: st) _ _
  rw [hv]
  exact k Z hZ.1 hZ.2
theorem z_ishr {x y : Int32} {v : Int} (hc : zat m i j .ishr L) (hv : x >>> (y &&& 31) = zi v) (k : ZX d m j lv (.int (zi v) :: st) t Q) : ZX d m i lv (.int y :: .int x :: st) t Q := by
  obtain ⟨⟨pc, hc⟩, rfl⟩ := hc
  refine zfold hc (fun Z hZ => ?_)
  show Z d m (i + 1) lv (.int (x >>> (y &&& 31)) :: st) _ _
  rw [hv]
  exact k Z hZ.1 hZ.2
theorem z_iushr {x y : Int32} {v : Int} (hc : zat m i j .iushr L) (hv : (x.toUInt32 >>> (y.toUInt32 &&& Int32.toUInt32 31)).toInt32 = zi v) (k : ZX d m j lv (.int (zi v) :: st) t Q) : ZX d m i lv (.int y :: .int x :: st) t Q := by
  obtain ⟨⟨pc, hc⟩, rfl⟩ := hc
  refine zfold hc (fun Z hZ => ?_)
  show Z d m (i + 1) lv (.int ((x.toUInt32 >>> (y.toUInt32 &&& Int32.toUInt32 31)).toInt32) :: st) _ _
  rw [hv]
  exact k Z hZ.1 hZ.2
theorem z_land {x y : Int64} {v : Int} (hc : zat m i j .land L) (hv : x &&& y = zj v) (k : ZX d m j lv (.long (zj v) :: st) t Q) : ZX d m i lv (.long y :: .long x :: st) t Q := by
  obtain ⟨⟨pc, hc⟩, rfl⟩ := hc
  refine zfold hc (fun Z hZ => ?_)
  show Z d m (i + 1) lv (.long (x &&& y) :: st) _ _
  rw [hv]
  exact k Z hZ.1 hZ.2
theorem z_lor {x y : Int64} {v : Int} (hc : zat m i j .lor L) (hv : x ||| y = zj v) (k : ZX d m j lv (.long (zj v) :: st) t Q) : ZX d m i lv (.long y :: .long x :: st) t Q := by
  obtain ⟨⟨pc, hc⟩, rfl⟩ := hc
  refine zfold hc (fun Z hZ => ?_)
  show Z d m (i + 1) lv (.long (x ||| y) :: st) _ _
  rw [hv]
  exact k Z hZ.1 hZ.2
theorem z_lshl {x : Int64} {y : Int32} {v : Int} (hc : zat m i j .lshl L) (hv : x <<< (y.toInt64 &&& 63) = zj v) (k : ZX d m j lv (.long (zj v) :: st) t Q) : ZX d m i lv (.int y :: .long x :: st) t Q := by
  obtain ⟨⟨pc, hc⟩, rfl⟩ := hc
  refine zfold hc (fun Z hZ => ?_)
  show Z d m (i + 1) lv (.long (x <<< (y.toInt64 &&& 63)) :: st) _ _
  rw [hv]
  exact k Z hZ.1 hZ.2
theorem z_lshr {x : Int64} {y : Int32} {v : Int} (hc : zat m i j .lshr L) (hv : x >>> (y.toInt64 &&& 63) = zj v) (k : ZX d m j lv (.long (zj v) :: st) t Q) : ZX d m i lv (.int y :: .long x :: st) t Q := by
  obtain ⟨⟨pc, hc⟩, rfl⟩ := hc
  refine zfold hc (fun Z hZ => ?_)
  show Z d m (i + 1) lv (.long (x >>> (y.toInt64 &&& 63)) :: st) _ _
  rw [hv]
  exact k Z hZ.1 hZ.2
theorem z_lushr {x : Int64} {y : Int32} {v : Int} (hc : zat m i j .lushr L) (hv : (x.toUInt64 >>> (y.toInt64.toUInt64 &&& Int64.toUInt64 63)).toInt64 = zj v) (k : ZX d m j lv (.long (zj v) :: st) t Q) : ZX d m i lv (.int y :: .long x :: st) t Q := by
  obtain ⟨⟨pc, hc⟩, rfl⟩ := hc
  refine zfold hc (fun Z hZ => ?_)
  show Z d m (i + 1) lv (.long ((x.toUInt64 >>> (y.toInt64.toUInt64 &&& Int64.toUInt64 63)).toInt64) :: st) _ _
  rw [hv]
  exact k Z hZ.1 hZ.2
theorem z_ladd {a b : Int} (hc : zat m i j .ladd L) (k : ZX d m j lv (.long (zj (a + b)) :: st) t Q) : ZX d m i lv (.long (zj b) :: .long (zj a) :: st) t Q := by
  obtain ⟨⟨pc, hc⟩, rfl⟩ := hc
  refine zfold hc (fun Z hZ => ?_)
  show Z d m (i + 1) lv (.long (zj a + zj b) :: st) _ _
  rw [zj_add]
  exact k Z hZ.1 hZ.2
theorem z_lmul {a b : Int} (hc : zat m i j .lmul L) (k : ZX d m j lv (.long (zj (a * b)) :: st) t Q) : ZX d m i lv (.long (zj b) :: .long (zj a) :: st) t Q := by
  obtain ⟨⟨pc, hc⟩, rfl⟩ := hc
  refine zfold hc (fun Z hZ => ?_)
  show Z d m (i + 1) lv (.long (zj a * zj b) :: st) _ _
  rw [zj_mul]
  exact k Z hZ.1 hZ.2
theorem z_i2l {a : Int} (hc : zat m i j .i2l L) (h : -2147483648 ≤ a ∧ a < 2147483648) (k : ZX d m j lv (.long (zj a) :: st) t Q) : ZX d m i lv (.int (zi a) :: st) t Q := by
  obtain ⟨⟨pc, hc⟩, rfl⟩ := hc
  refine zfold hc (fun Z hZ => ?_)
  show Z d m (i + 1) lv (.long (zi a).toInt64 :: st) _ _
  rw [zi_l h]
  exact k Z hZ.1 hZ.2
theorem z_l2i {x : Int64} {v : Int} (hc : zat m i j .l2i L) (hv : x.toInt32 = zi v) (k : ZX d m j lv (.int (zi v) :: st) t Q) : ZX d m i lv (.long x :: st) t Q := by
  obtain ⟨⟨pc, hc⟩, rfl⟩ := hc
  refine zfold hc (fun Z hZ => ?_)
  show Z d m (i + 1) lv (.int x.toInt32 :: st) _ _
  rw [hv]
  exact k Z hZ.1 hZ.2
theorem z_i2b {x : Int32} {v : Int} (hc : zat m i j .i2b L) (hv : x.toInt8.toInt32 = zi v) (k : ZX d m j lv (.int (zi v) :: st) t Q) : ZX d m i lv (.int x :: st) t Q := by
  obtain ⟨⟨pc, hc⟩, rfl⟩ := hc
  refine zfold hc (fun Z hZ => ?_)
  show Z d m (i + 1) lv (.int x.toInt8.toInt32 :: st) _ _
  rw [hv]
  exact k Z hZ.1 hZ.2
theorem z_i2s {x : Int32} {v : Int} (hc : zat m i j .i2s L) (hv : x.toInt16.toInt32 = zi v) (k : ZX d m j lv (.int (zi v) :: st) t Q) : ZX d m i lv (.int x :: st) t Q := by
  obtain ⟨⟨pc, hc⟩, rfl⟩ := hc
  refine zfold hc (fun Z hZ => ?_)
  show Z d m (i + 1) lv (.int x.toInt16.toInt32 :: st) _ _
  rw [hv]
  exact k Z hZ.1 hZ.2
theorem z_lcmp {x y : Int64} {v : Int} (hc : zat m i j .lcmp L) (hv : lg_cmp x y = zi v) (k : ZX d m j lv (.int (zi v) :: st) t Q) : ZX d m i lv (.long y :: .long x :: st) t Q := by
  obtain ⟨⟨pc, hc⟩, rfl⟩ := hc
  refine zfold hc (fun Z hZ => ?_)
  show Z d m (i + 1) lv (.int (lg_cmp x y) :: st) _ _
  rw [hv]
  exact k Z hZ.1 hZ.2
theorem z_dup {v : Value} (hc : zat m i j .dup L) (hv : v.category = 1) (k : ZX d m j lv (v :: v :: st) t Q) : ZX d m i lv (v :: st) t Q := by
  obtain ⟨⟨pc, hc⟩, rfl⟩ := hc
  refine zfold hc (fun Z hZ => ?_)
  exact ⟨hv, k Z hZ.1 hZ.2⟩
theorem z_dup2 {v w : Value} (hc : zat m i j .dup2 L) (hv : v.category = 1) (hw : w.category = 1) (k : ZX d m j lv (v :: w :: v :: w :: st) t Q) : ZX d m i lv (v :: w :: st) t Q := by
  obtain ⟨⟨pc, hc⟩, rfl⟩ := hc
  refine zfold hc (fun Z hZ => ?_)
  exact ⟨hv, hw, k Z hZ.1 hZ.2⟩
theorem z_pop {v : Value} (hc : zat m i j .pop L) (hv : v.category = 1) (k : ZX d m j lv st t Q) : ZX d m i lv (v :: st) t Q := by
  obtain ⟨⟨pc, hc⟩, rfl⟩ := hc
  refine zfold hc (fun Z hZ => ?_)
  exact ⟨hv, k Z hZ.1 hZ.2⟩
theorem z_getfield {x b ci f p : Nat} {v : Value} (hc : zat m i j (.getfield x) [ci, f, p]) (hv : zf (zlf t) b ci f = some v) (k : ZX d m j lv (v :: st) t Q) : ZX d m i lv (.ref b :: st) t Q := by
  obtain ⟨⟨pc, hc⟩, rfl⟩ := hc
  refine zfold hc (fun Z hZ => ?_)
  exact ⟨v, hv, k Z hZ.1 hZ.2⟩
theorem z_putfield {x b ci f p : Nat} {a : Int} (hc : zat m i j (.putfield x) [ci, f, p]) (hf : zfi b ci f = true) (hty : zfd ci f = "I" ∨ (zfd ci f = "Z" ∧ (a = 0 ∨ a = 1))) (k : ZX d m j lv st (zup t b f a) Q) : ZX d m i lv (.int (zi a) :: .ref b :: st) t Q := by
  obtain ⟨⟨pc, hc⟩, rfl⟩ := hc
  refine zfold hc (fun Z hZ => ?_)
  refine ⟨hf, ?_, ?_⟩
  · rcases hty with h | ⟨h, h2⟩
    · exact Or.inl h
    · refine Or.inr ⟨h, ?_⟩
      rcases h2 with rfl | rfl
      · exact Or.inl rfl
      · exact Or.inr rfl
  · show Z d m (i + 1) lv st (zu (zlf t) b f (zi a)) _
    rw [zlf_up]
    exact k Z hZ.1 hZ.2
theorem z_iaload {b : Nat} {a : Int} {n N : Nat} (hc : zat m i j .iaload L) (hy : zLy[b]? = some (.inl N)) (hN : N < 2147483648) (ha : a = (n : Int)) (hn : n < N) (k : ZX d m j lv (.int (zi (t b n)) :: st) t Q) : ZX d m i lv (.int (zi a) :: .ref b :: st) t Q := by
  obtain ⟨⟨pc, hc⟩, rfl⟩ := hc
  refine zfold hc (fun Z hZ => ?_)
  refine ⟨N, hy, zi_in ha hn hN, ?_⟩
  rw [zi_clamp ha (by omega)]
  exact k Z hZ.1 hZ.2
theorem z_iastore {b : Nat} {a v : Int} {n N : Nat} (hc : zat m i j .iastore L) (hy : zLy[b]? = some (.inl N)) (hN : N < 2147483648) (ha : a = (n : Int)) (hn : n < N) (k : ZX d m j lv st (zup t b n v) Q) : ZX d m i lv (.int (zi v) :: .int (zi a) :: .ref b :: st) t Q := by
  obtain ⟨⟨pc, hc⟩, rfl⟩ := hc
  refine zfold hc (fun Z hZ => ?_)
  refine ⟨N, hy, zi_in ha hn hN, ?_⟩
  rw [zi_clamp ha (by omega), zlf_up]
  exact k Z hZ.1 hZ.2
theorem z_aaload {b q : Nat} {a : Int} {n : Nat} {rs : List Nat} (hc : zat m i j .aaload L) (hy : zLy[b]? = some (.inr (.inr rs))) (hN : rs.length < 2147483648) (ha : a = (n : Int)) (hq : rs[n]? = some q) (k : ZX d m j lv (.ref q :: st) t Q) : ZX d m i lv (.int (zi a) :: .ref b :: st) t Q := by
  obtain ⟨⟨pc, hc⟩, rfl⟩ := hc
  have hn := (List.getElem?_eq_some_iff.mp hq).1
  refine zfold hc (fun Z hZ => ?_)
  refine ⟨rs, q, hy, zi_in ha hn hN, ?_, k Z hZ.1 hZ.2⟩
  rw [zi_clamp ha (by omega)]
  exact hq
theorem z_alen {b N : Nat} (hc : zat m i j .arraylength L) (hy : zLy[b]? = some (.inl N)) (k : ZX d m j lv (.int (zi (N : Int)) :: st) t Q) : ZX d m i lv (.ref b :: st) t Q := by
  obtain ⟨⟨pc, hc⟩, rfl⟩ := hc
  refine zfold hc (fun Z hZ => ?_)
  refine ⟨N, Or.inl hy, ?_⟩
  have e : Int32.ofNat N = zi (N : Int) := rfl
  rw [e]
  exact k Z hZ.1 hZ.2
theorem z_alenq {b N : Nat} {rs : List Nat} (hc : zat m i j .arraylength L) (hy : zLy[b]? = some (.inr (.inr rs))) (hN : rs.length = N) (k : ZX d m j lv (.int (zi (N : Int)) :: st) t Q) : ZX d m i lv (.ref b :: st) t Q := by
  obtain ⟨⟨pc, hc⟩, rfl⟩ := hc
  refine zfold hc (fun Z hZ => ?_)
  refine ⟨N, Or.inr ⟨rs, hy, hN⟩, ?_⟩
  have e : Int32.ofNat N = zi (N : Int) := rfl
  rw [e]
  exact k Z hZ.1 hZ.2
theorem z_goto {off : Int} {g : Nat} (hc : zat m i j (.goto off) [g]) (k : ZX d m g lv st t Q) : ZX d m i lv st t Q := by
  obtain ⟨⟨pc, hc⟩, rfl⟩ := hc
  refine zfold hc (fun Z hZ => ?_)
  exact k Z hZ.1 hZ.2
theorem zcc_eq {a b : Int} (h : ((-2147483648 ≤ a ∧ a < 2147483648) ∧ (-2147483648 ≤ b ∧ b < 2147483648))) : zcc .eq (zi a) (zi b) ↔ a = b := by
  show zi a = zi b ↔ _
  rw [zi_inj h]
theorem z_icmp_eq {off : Int} {g : Nat} {a b : Int} (hc : zat m i j (.if_icmp .eq off) [g]) (h : ((-2147483648 ≤ a ∧ a < 2147483648) ∧ (-2147483648 ≤ b ∧ b < 2147483648))) (kt : a = b → ZX d m g lv st t Q) (kf : ¬ (a = b) → ZX d m j lv st t Q) : ZX d m i lv (.int (zi b) :: .int (zi a) :: st) t Q := by
  obtain ⟨⟨pc, hc⟩, rfl⟩ := hc
  refine zfold hc (fun Z hZ => ?_)
  exact ⟨fun q => kt ((zcc_eq h).mp q) Z hZ.1 hZ.2, fun q => kf (fun q2 => q ((zcc_eq h).mpr q2)) Z hZ.1 hZ.2⟩
theorem z_if_eq {off : Int} {g : Nat} {a : Int} (hc : zat m i j (.ifCond .eq off) [g]) (h : -2147483648 ≤ a ∧ a < 2147483648) (kt : a = 0 → ZX d m g lv st t Q) (kf : ¬ (a = 0) → ZX d m j lv st t Q) : ZX d m i lv (.int (zi a) :: st) t Q := by
  obtain ⟨⟨pc, hc⟩, rfl⟩ := hc
  refine zfold hc (fun Z hZ => ?_)
  exact ⟨fun q => kt ((zcc_eq (b := 0) ⟨h, by omega⟩).mp q) Z hZ.1 hZ.2, fun q => kf (fun q2 => q ((zcc_eq (b := 0) ⟨h, by omega⟩).mpr q2)) Z hZ.1 hZ.2⟩
theorem z_icmp_eq_t {off : Int} {g : Nat} {a b : Int} (hc : zat m i j (.if_icmp .eq off) [g]) (h : ((-2147483648 ≤ a ∧ a < 2147483648) ∧ (-2147483648 ≤ b ∧ b < 2147483648))) (hp : a = b) (kt : ZX d m g lv st t Q) : ZX d m i lv (.int (zi b) :: .int (zi a) :: st) t Q := z_icmp_eq hc h (fun _ => kt) (fun q => absurd hp q)
theorem z_icmp_eq_f {off : Int} {g : Nat} {a b : Int} (hc : zat m i j (.if_icmp .eq off) [g]) (h : ((-2147483648 ≤ a ∧ a < 2147483648) ∧ (-2147483648 ≤ b ∧ b < 2147483648))) (hp : ¬ (a = b)) (kf : ZX d m j lv st t Q) : ZX d m i lv (.int (zi b) :: .int (zi a) :: st) t Q := z_icmp_eq hc h (fun q => absurd q hp) (fun _ => kf)
theorem z_if_eq_t {off : Int} {g : Nat} {a : Int} (hc : zat m i j (.ifCond .eq off) [g]) (h : -2147483648 ≤ a ∧ a < 2147483648) (hp : a = 0) (kt : ZX d m g lv st t Q) : ZX d m i lv (.int (zi a) :: st) t Q := z_if_eq hc h (fun _ => kt) (fun q => absurd hp q)
theorem z_if_eq_f {off : Int} {g : Nat} {a : Int} (hc : zat m i j (.ifCond .eq off) [g]) (h : -2147483648 ≤ a ∧ a < 2147483648) (hp : ¬ (a = 0)) (kf : ZX d m j lv st t Q) : ZX d m i lv (.int (zi a) :: st) t Q := z_if_eq hc h (fun q => absurd q hp) (fun _ => kf)
theorem zcc_ne {a b : Int} (h : ((-2147483648 ≤ a ∧ a < 2147483648) ∧ (-2147483648 ≤ b ∧ b < 2147483648))) : zcc .ne (zi a) (zi b) ↔ ¬ a = b := by
  show ¬ zi a = zi b ↔ _
  rw [zi_inj h]
theorem z_icmp_ne {off : Int} {g : Nat} {a b : Int} (hc : zat m i j (.if_icmp .ne off) [g]) (h : ((-2147483648 ≤ a ∧ a < 2147483648) ∧ (-2147483648 ≤ b ∧ b < 2147483648))) (kt : ¬ a = b → ZX d m g lv st t Q) (kf : ¬ (¬ a = b) → ZX d m j lv st t Q) : ZX d m i lv (.int (zi b) :: .int (zi a) :: st) t Q := by
  obtain ⟨⟨pc, hc⟩, rfl⟩ := hc
  refine zfold hc (fun Z hZ => ?_)
  exact ⟨fun q => kt ((zcc_ne h).mp q) Z hZ.1 hZ.2, fun q => kf (fun q2 => q ((zcc_ne h).mpr q2)) Z hZ.1 hZ.2⟩
theorem z_if_ne {off : Int} {g : Nat} {a : Int} (hc : zat m i j (.ifCond .ne off) [g]) (h : -2147483648 ≤ a ∧ a < 2147483648) (kt : ¬ a = 0 → ZX d m g lv st t Q) (kf : ¬ (¬ a = 0) → ZX d m j lv st t Q) : ZX d m i lv (.int (zi a) :: st) t Q := by
  obtain ⟨⟨pc, hc⟩, rfl⟩ := hc
  refine zfold hc (fun Z hZ => ?_)
  exact ⟨fun q => kt ((zcc_ne (b := 0) ⟨h, by omega⟩).mp q) Z hZ.1 hZ.2, fun q => kf (fun q2 => q ((zcc_ne (b := 0) ⟨h, by omega⟩).mpr q2)) Z hZ.1 hZ.2⟩
theorem z_icmp_ne_t {off : Int} {g : Nat} {a b : Int} (hc : zat m i j (.if_icmp .ne off) [g]) (h : ((-2147483648 ≤ a ∧ a < 2147483648) ∧ (-2147483648 ≤ b ∧ b < 2147483648))) (hp : ¬ a = b) (kt : ZX d m g lv st t Q) : ZX d m i lv (.int (zi b) :: .int (zi a) :: st) t Q := z_icmp_ne hc h (fun _ => kt) (fun q => absurd hp q)
theorem z_icmp_ne_f {off : Int} {g : Nat} {a b : Int} (hc : zat m i j (.if_icmp .ne off) [g]) (h : ((-2147483648 ≤ a ∧ a < 2147483648) ∧ (-2147483648 ≤ b ∧ b < 2147483648))) (hp : ¬ (¬ a = b)) (kf : ZX d m j lv st t Q) : ZX d m i lv (.int (zi b) :: .int (zi a) :: st) t Q := z_icmp_ne hc h (fun q => absurd q hp) (fun _ => kf)
theorem z_if_ne_t {off : Int} {g : Nat} {a : Int} (hc : zat m i j (.ifCond .ne off) [g]) (h : -2147483648 ≤ a ∧ a < 2147483648) (hp : ¬ a = 0) (kt : ZX d m g lv st t Q) : ZX d m i lv (.int (zi a) :: st) t Q := z_if_ne hc h (fun _ => kt) (fun q => absurd hp q)
theorem z_if_ne_f {off : Int} {g : Nat} {a : Int} (hc : zat m i j (.ifCond .ne off) [g]) (h : -2147483648 ≤ a ∧ a < 2147483648) (hp : ¬ (¬ a = 0)) (kf : ZX d m j lv st t Q) : ZX d m i lv (.int (zi a) :: st) t Q := z_if_ne hc h (fun q => absurd q hp) (fun _ => kf)
theorem zcc_lt {a b : Int} (h : ((-2147483648 ≤ a ∧ a < 2147483648) ∧ (-2147483648 ≤ b ∧ b < 2147483648))) : zcc .lt (zi a) (zi b) ↔ a < b := by
  show zi a < zi b ↔ _
  rw [zi_lt h]
theorem z_icmp_lt {off : Int} {g : Nat} {a b : Int} (hc : zat m i j (.if_icmp .lt off) [g]) (h : ((-2147483648 ≤ a ∧ a < 2147483648) ∧ (-2147483648 ≤ b ∧ b < 2147483648))) (kt : a < b → ZX d m g lv st t Q) (kf : ¬ (a < b) → ZX d m j lv st t Q) : ZX d m i lv (.int (zi b) :: .int (zi a) :: st) t Q := by
  obtain ⟨⟨pc, hc⟩, rfl⟩ := hc
  refine zfold hc (fun Z hZ => ?_)
  exact ⟨fun q => kt ((zcc_lt h).mp q) Z hZ.1 hZ.2, fun q => kf (fun q2 => q ((zcc_lt h).mpr q2)) Z hZ.1 hZ.2⟩
theorem z_if_lt {off : Int} {g : Nat} {a : Int} (hc : zat m i j (.ifCond .lt off) [g]) (h : -2147483648 ≤ a ∧ a < 2147483648) (kt : a < 0 → ZX d m g lv st t Q) (kf : ¬ (a < 0) → ZX d m j lv st t Q) : ZX d m i lv (.int (zi a) :: st) t Q := by
  obtain ⟨⟨pc, hc⟩, rfl⟩ := hc
  refine zfold hc (fun Z hZ => ?_)
  exact ⟨fun q => kt ((zcc_lt (b := 0) ⟨h, by omega⟩).mp q) Z hZ.1 hZ.2, fun q => kf (fun q2 => q ((zcc_lt (b := 0) ⟨h, by omega⟩).mpr q2)) Z hZ.1 hZ.2⟩
theorem z_icmp_lt_t {off : Int} {g : Nat} {a b : Int} (hc : zat m i j (.if_icmp .lt off) [g]) (h : ((-2147483648 ≤ a ∧ a < 2147483648) ∧ (-2147483648 ≤ b ∧ b < 2147483648))) (hp : a < b) (kt : ZX d m g lv st t Q) : ZX d m i lv (.int (zi b) :: .int (zi a) :: st) t Q := z_icmp_lt hc h (fun _ => kt) (fun q => absurd hp q)
theorem z_icmp_lt_f {off : Int} {g : Nat} {a b : Int} (hc : zat m i j (.if_icmp .lt off) [g]) (h : ((-2147483648 ≤ a ∧ a < 2147483648) ∧ (-2147483648 ≤ b ∧ b < 2147483648))) (hp : ¬ (a < b)) (kf : ZX d m j lv st t Q) : ZX d m i lv (.int (zi b) :: .int (zi a) :: st) t Q := z_icmp_lt hc h (fun q => absurd q hp) (fun _ => kf)
theorem z_if_lt_t {off : Int} {g : Nat} {a : Int} (hc : zat m i j (.ifCond .lt off) [g]) (h : -2147483648 ≤ a ∧ a < 2147483648) (hp : a < 0) (kt : ZX d m g lv st t Q) : ZX d m i lv (.int (zi a) :: st) t Q := z_if_lt hc h (fun _ => kt) (fun q => absurd hp q)
theorem z_if_lt_f {off : Int} {g : Nat} {a : Int} (hc : zat m i j (.ifCond .lt off) [g]) (h : -2147483648 ≤ a ∧ a < 2147483648) (hp : ¬ (a < 0)) (kf : ZX d m j lv st t Q) : ZX d m i lv (.int (zi a) :: st) t Q := z_if_lt hc h (fun q => absurd q hp) (fun _ => kf)
theorem zcc_ge {a b : Int} (h : ((-2147483648 ≤ a ∧ a < 2147483648) ∧ (-2147483648 ≤ b ∧ b < 2147483648))) : zcc .ge (zi a) (zi b) ↔ b ≤ a := by
  show zi b ≤ zi a ↔ _
  rw [zi_le ⟨h.2, h.1⟩]
theorem z_icmp_ge {off : Int} {g : Nat} {a b : Int} (hc : zat m i j (.if_icmp .ge off) [g]) (h : ((-2147483648 ≤ a ∧ a < 2147483648) ∧ (-2147483648 ≤ b ∧ b < 2147483648))) (kt : b ≤ a → ZX d m g lv st t Q) (kf : ¬ (b ≤ a) → ZX d m j lv st t Q) : ZX d m i lv (.int (zi b) :: .int (zi a) :: st) t Q := by
  obtain ⟨⟨pc, hc⟩, rfl⟩ := hc
  refine zfold hc (fun Z hZ => ?_)
  exact ⟨fun q => kt ((zcc_ge h).mp q) Z hZ.1 hZ.2, fun q => kf (fun q2 => q ((zcc_ge h).mpr q2)) Z hZ.1 hZ.2⟩
theorem z_if_ge {off : Int} {g : Nat} {a : Int} (hc : zat m i j (.ifCond .ge off) [g]) (h : -2147483648 ≤ a ∧ a < 2147483648) (kt : 0 ≤ a → ZX d m g lv st t Q) (kf : ¬ (0 ≤ a) → ZX d m j lv st t Q) : ZX d m i lv (.int (zi a) :: st) t Q := by
  obtain ⟨⟨pc, hc⟩, rfl⟩ := hc
  refine zfold hc (fun Z hZ => ?_)
  exact ⟨fun q => kt ((zcc_ge (b := 0) ⟨h, by omega⟩).mp q) Z hZ.1 hZ.2, fun q => kf (fun q2 => q ((zcc_ge (b := 0) ⟨h, by omega⟩).mpr q2)) Z hZ.1 hZ.2⟩
theorem z_icmp_ge_t {off : Int} {g : Nat} {a b : Int} (hc : zat m i j (.if_icmp .ge off) [g]) (h : ((-2147483648 ≤ a ∧ a < 2147483648) ∧ (-2147483648 ≤ b ∧ b < 2147483648))) (hp : b ≤ a) (kt : ZX d m g lv st t Q) : ZX d m i lv (.int (zi b) :: .int (zi a) :: st) t Q := z_icmp_ge hc h (fun _ => kt) (fun q => absurd hp q)
theorem z_icmp_ge_f {off : Int} {g : Nat} {a b : Int} (hc : zat m i j (.if_icmp .ge off) [g]) (h : ((-2147483648 ≤ a ∧ a < 2147483648) ∧ (-2147483648 ≤ b ∧ b < 2147483648))) (hp : ¬ (b ≤ a)) (kf : ZX d m j lv st t Q) : ZX d m i lv (.int (zi b) :: .int (zi a) :: st) t Q := z_icmp_ge hc h (fun q => absurd q hp) (fun _ => kf)
theorem z_if_ge_t {off : Int} {g : Nat} {a : Int} (hc : zat m i j (.ifCond .ge off) [g]) (h : -2147483648 ≤ a ∧ a < 2147483648) (hp : 0 ≤ a) (kt : ZX d m g lv st t Q) : ZX d m i lv (.int (zi a) :: st) t Q := z_if_ge hc h (fun _ => kt) (fun q => absurd hp q)
theorem z_if_ge_f {off : Int} {g : Nat} {a : Int} (hc : zat m i j (.ifCond .ge off) [g]) (h : -2147483648 ≤ a ∧ a < 2147483648) (hp : ¬ (0 ≤ a)) (kf : ZX d m j lv st t Q) : ZX d m i lv (.int (zi a) :: st) t Q := z_if_ge hc h (fun q => absurd q hp) (fun _ => kf)
theorem zcc_gt {a b : Int} (h : ((-2147483648 ≤ a ∧ a < 2147483648) ∧ (-2147483648 ≤ b ∧ b < 2147483648))) : zcc .gt (zi a) (zi b) ↔ b < a := by
  show zi b < zi a ↔ _
  rw [zi_lt ⟨h.2, h.1⟩]
theorem z_icmp_gt {off : Int} {g : Nat} {a b : Int} (hc : zat m i j (.if_icmp .gt off) [g]) (h : ((-2147483648 ≤ a ∧ a < 2147483648) ∧ (-2147483648 ≤ b ∧ b < 2147483648))) (kt : b < a → ZX d m g lv st t Q) (kf : ¬ (b < a) → ZX d m j lv st t Q) : ZX d m i lv (.int (zi b) :: .int (zi a) :: st) t Q := by
  obtain ⟨⟨pc, hc⟩, rfl⟩ := hc
  refine zfold hc (fun Z hZ => ?_)
  exact ⟨fun q => kt ((zcc_gt h).mp q) Z hZ.1 hZ.2, fun q => kf (fun q2 => q ((zcc_gt h).mpr q2)) Z hZ.1 hZ.2⟩
theorem z_if_gt {off : Int} {g : Nat} {a : Int} (hc : zat m i j (.ifCond .gt off) [g]) (h : -2147483648 ≤ a ∧ a < 2147483648) (kt : 0 < a → ZX d m g lv st t Q) (kf : ¬ (0 < a) → ZX d m j lv st t Q) : ZX d m i lv (.int (zi a) :: st) t Q := by
  obtain ⟨⟨pc, hc⟩, rfl⟩ := hc
  refine zfold hc (fun Z hZ => ?_)
  exact ⟨fun q => kt ((zcc_gt (b := 0) ⟨h, by omega⟩).mp q) Z hZ.1 hZ.2, fun q => kf (fun q2 => q ((zcc_gt (b := 0) ⟨h, by omega⟩).mpr q2)) Z hZ.1 hZ.2⟩
theorem z_icmp_gt_t {off : Int} {g : Nat} {a b : Int} (hc : zat m i j (.if_icmp .gt off) [g]) (h : ((-2147483648 ≤ a ∧ a < 2147483648) ∧ (-2147483648 ≤ b ∧ b < 2147483648))) (hp : b < a) (kt : ZX d m g lv st t Q) : ZX d m i lv (.int (zi b) :: .int (zi a) :: st) t Q := z_icmp_gt hc h (fun _ => kt) (fun q => absurd hp q)
theorem z_icmp_gt_f {off : Int} {g : Nat} {a b : Int} (hc : zat m i j (.if_icmp .gt off) [g]) (h : ((-2147483648 ≤ a ∧ a < 2147483648) ∧ (-2147483648 ≤ b ∧ b < 2147483648))) (hp : ¬ (b < a)) (kf : ZX d m j lv st t Q) : ZX d m i lv (.int (zi b) :: .int (zi a) :: st) t Q := z_icmp_gt hc h (fun q => absurd q hp) (fun _ => kf)
theorem z_if_gt_t {off : Int} {g : Nat} {a : Int} (hc : zat m i j (.ifCond .gt off) [g]) (h : -2147483648 ≤ a ∧ a < 2147483648) (hp : 0 < a) (kt : ZX d m g lv st t Q) : ZX d m i lv (.int (zi a) :: st) t Q := z_if_gt hc h (fun _ => kt) (fun q => absurd hp q)
theorem z_if_gt_f {off : Int} {g : Nat} {a : Int} (hc : zat m i j (.ifCond .gt off) [g]) (h : -2147483648 ≤ a ∧ a < 2147483648) (hp : ¬ (0 < a)) (kf : ZX d m j lv st t Q) : ZX d m i lv (.int (zi a) :: st) t Q := z_if_gt hc h (fun q => absurd q hp) (fun _ => kf)
theorem zcc_le {a b : Int} (h : ((-2147483648 ≤ a ∧ a < 2147483648) ∧ (-2147483648 ≤ b ∧ b < 2147483648))) : zcc .le (zi a) (zi b) ↔ a ≤ b := by
  show zi a ≤ zi b ↔ _
  rw [zi_le h]
theorem z_icmp_le {off : Int} {g : Nat} {a b : Int} (hc : zat m i j (.if_icmp .le off) [g]) (h : ((-2147483648 ≤ a ∧ a < 2147483648) ∧ (-2147483648 ≤ b ∧ b < 2147483648))) (kt : a ≤ b → ZX d m g lv st t Q) (kf : ¬ (a ≤ b) → ZX d m j lv st t Q) : ZX d m i lv (.int (zi b) :: .int (zi a) :: st) t Q := by
  obtain ⟨⟨pc, hc⟩, rfl⟩ := hc
  refine zfold hc (fun Z hZ => ?_)
  exact ⟨fun q => kt ((zcc_le h).mp q) Z hZ.1 hZ.2, fun q => kf (fun q2 => q ((zcc_le h).mpr q2)) Z hZ.1 hZ.2⟩
theorem z_if_le {off : Int} {g : Nat} {a : Int} (hc : zat m i j (.ifCond .le off) [g]) (h : -2147483648 ≤ a ∧ a < 2147483648) (kt : a ≤ 0 → ZX d m g lv st t Q) (kf : ¬ (a ≤ 0) → ZX d m j lv st t Q) : ZX d m i lv (.int (zi a) :: st) t Q := by
  obtain ⟨⟨pc, hc⟩, rfl⟩ := hc
  refine zfold hc (fun Z hZ => ?_)
  exact ⟨fun q => kt ((zcc_le (b := 0) ⟨h, by omega⟩).mp q) Z hZ.1 hZ.2, fun q => kf (fun q2 => q ((zcc_le (b := 0) ⟨h, by omega⟩).mpr q2)) Z hZ.1 hZ.2⟩
theorem z_icmp_le_t {off : Int} {g : Nat} {a b : Int} (hc : zat m i j (.if_icmp .le off) [g]) (h : ((-2147483648 ≤ a ∧ a < 2147483648) ∧ (-2147483648 ≤ b ∧ b < 2147483648))) (hp : a ≤ b) (kt : ZX d m g lv st t Q) : ZX d m i lv (.int (zi b) :: .int (zi a) :: st) t Q := z_icmp_le hc h (fun _ => kt) (fun q => absurd hp q)
theorem z_icmp_le_f {off : Int} {g : Nat} {a b : Int} (hc : zat m i j (.if_icmp .le off) [g]) (h : ((-2147483648 ≤ a ∧ a < 2147483648) ∧ (-2147483648 ≤ b ∧ b < 2147483648))) (hp : ¬ (a ≤ b)) (kf : ZX d m j lv st t Q) : ZX d m i lv (.int (zi b) :: .int (zi a) :: st) t Q := z_icmp_le hc h (fun q => absurd q hp) (fun _ => kf)
theorem z_if_le_t {off : Int} {g : Nat} {a : Int} (hc : zat m i j (.ifCond .le off) [g]) (h : -2147483648 ≤ a ∧ a < 2147483648) (hp : a ≤ 0) (kt : ZX d m g lv st t Q) : ZX d m i lv (.int (zi a) :: st) t Q := z_if_le hc h (fun _ => kt) (fun q => absurd hp q)
theorem z_if_le_f {off : Int} {g : Nat} {a : Int} (hc : zat m i j (.ifCond .le off) [g]) (h : -2147483648 ≤ a ∧ a < 2147483648) (hp : ¬ (a ≤ 0)) (kf : ZX d m j lv st t Q) : ZX d m i lv (.int (zi a) :: st) t Q := z_if_le hc h (fun q => absurd q hp) (fun _ => kf)
theorem z_ifnull_N {off : Int} {g : Nat} (hc : zat m i j (.ifnull off) [g]) (k : ZX d m g lv st t Q) : ZX d m i lv (.null :: st) t Q := by
  obtain ⟨⟨pc, hc⟩, rfl⟩ := hc
  refine zfold hc (fun Z hZ => ?_)
  exact ⟨fun _ => k Z hZ.1 hZ.2, ⟨fun b hb => (by cases hb), Or.inl rfl⟩⟩
theorem z_ifnull_R {off : Int} {g b : Nat} (hc : zat m i j (.ifnull off) [g]) (k : ZX d m j lv st t Q) : ZX d m i lv (.ref b :: st) t Q := by
  obtain ⟨⟨pc, hc⟩, rfl⟩ := hc
  refine zfold hc (fun Z hZ => ?_)
  exact ⟨fun hb => (by cases hb), ⟨fun _ _ => k Z hZ.1 hZ.2, Or.inr ⟨_, rfl⟩⟩⟩
theorem z_ifnonnull_N {off : Int} {g : Nat} (hc : zat m i j (.ifnonnull off) [g]) (k : ZX d m j lv st t Q) : ZX d m i lv (.null :: st) t Q := by
  obtain ⟨⟨pc, hc⟩, rfl⟩ := hc
  refine zfold hc (fun Z hZ => ?_)
  exact ⟨fun _ => k Z hZ.1 hZ.2, ⟨fun b hb => (by cases hb), Or.inl rfl⟩⟩
theorem z_ifnonnull_R {off : Int} {g b : Nat} (hc : zat m i j (.ifnonnull off) [g]) (k : ZX d m g lv st t Q) : ZX d m i lv (.ref b :: st) t Q := by
  obtain ⟨⟨pc, hc⟩, rfl⟩ := hc
  refine zfold hc (fun Z hZ => ?_)
  exact ⟨fun hb => (by cases hb), ⟨fun _ _ => k Z hZ.1 hZ.2, Or.inr ⟨_, rfl⟩⟩⟩
theorem z_tabOut {dflt lo hi : Int} {offs : Array Int} {g : Nat} {a : Int} (hc : zat m i j (.tableswitch dflt lo hi offs) L) (h : -2147483648 ≤ a ∧ a < 2147483648) (hp : a < lo ∨ hi < a) (hg : zL L 0 = g) (k : ZX d m g lv st t Q) : ZX d m i lv (.int (zi a) :: st) t Q := by
  obtain ⟨⟨pc, hc⟩, rfl⟩ := hc
  subst hg
  refine zfold hc (fun Z hZ => ?_)
  refine ⟨fun _ => k Z hZ.1 hZ.2, fun h1 h2 => ?_⟩
  rw [zi_toInt h] at h1 h2
  omega
theorem z_tabIn {dflt lo hi : Int} {offs : Array Int} {g : Nat} {a : Int} (hc : zat m i j (.tableswitch dflt lo hi offs) L) (h : -2147483648 ≤ a ∧ a < 2147483648) (hp : lo ≤ a ∧ a ≤ hi) (hg : zL L (1 + (a - lo).toNat) = g) (k : ZX d m g lv st t Q) : ZX d m i lv (.int (zi a) :: st) t Q := by
  obtain ⟨⟨pc, hc⟩, rfl⟩ := hc
  subst hg
  refine zfold hc (fun Z hZ => ?_)
  refine ⟨fun h1 => ?_, fun _ _ => ?_⟩
  · rw [zi_toInt h] at h1
    omega
  · rw [zi_toInt h]
    exact k Z hZ.1 hZ.2
theorem z_ireturn {a : Int} {K : Int → zMI → Prop} (hc : zat m i j .ireturn L) (hr : zr m = some .int) (k : K a t) : ZX d m i lv [.int (zi a)] t (zKi K) := by
  obtain ⟨⟨pc, hc⟩, rfl⟩ := hc
  refine zfold hc (fun Z hZ => ?_)
  exact ⟨rfl, Or.inl hr, t, rfl, a, rfl, k⟩
theorem z_zreturn {a : Int} {K : Int → zMI → Prop} (hc : zat m i j .ireturn L) (hr : zr m = some .boolean) (ha : a = 0 ∨ a = 1) (k : K a t) : ZX d m i lv [.int (zi a)] t (zKi K) := by
  obtain ⟨⟨pc, hc⟩, rfl⟩ := hc
  refine zfold hc (fun Z hZ => ?_)
  refine ⟨rfl, Or.inr ⟨hr, ?_⟩, t, rfl, a, rfl, k⟩
  rcases ha with rfl | rfl
  · exact Or.inl rfl
  · exact Or.inr rfl
theorem z_vreturn {K : zMI → Prop} (hc : zat m i j .return_ L) (hr : zr m = none) (k : K t) : ZX d m i lv [] t (zKv K) := by
  obtain ⟨⟨pc, hc⟩, rfl⟩ := hc
  refine zfold hc (fun Z hZ => ?_)
  exact ⟨rfl, hr, t, rfl, rfl, k⟩
theorem z_areturn {b : Nat} {K : Option Nat → zMI → Prop} (hc : zat m i j .areturn L) (hr : zr m = some (.object RX0)) (k : K (some b) t) : ZX d m i lv [.ref b] t (zKr K) := by
  obtain ⟨⟨pc, hc⟩, rfl⟩ := hc
  refine zfold hc (fun Z hZ => ?_)
  exact ⟨rfl, Or.inr ⟨_, rfl⟩, hr, t, rfl, some b, rfl, k⟩
theorem z_areturnN {K : Option Nat → zMI → Prop} (hc : zat m i j .areturn L) (hr : zr m = some (.object RX0)) (k : K none t) : ZX d m i lv [.null] t (zKr K) := by
  obtain ⟨⟨pc, hc⟩, rfl⟩ := hc
  refine zfold hc (fun Z hZ => ?_)
  exact ⟨rfl, Or.inl rfl, hr, t, rfl, none, rfl, k⟩
theorem z_copy {x p1 p2 p3 p4 a b : Nat} {n : Int} {N n0 n1 : Nat} (hc : zat m i j (.invokestatic x) [999, p1, p2, p3, p4]) (hy0 : zLy[a]? = some (.inl n0)) (hy1 : zLy[b]? = some (.inl n1)) (hn : n = (N : Int)) (h : N ≤ n0 ∧ N ≤ n1 ∧ N < 2147483648) (hcat : zcat st ≤ 8) (k : ZX (d + 1) m j lv st (zcpi t a b N) Q) : ZX (d + 1) m i lv (.int (zi n) :: .int (zi 0) :: .ref b :: .int (zi 0) :: .ref a :: st) t Q := by
  obtain ⟨⟨pc, hc⟩, rfl⟩ := hc
  refine zfold hc (fun Z hZ => ?_)
  have e0 : (zi 0).toNatClampNeg = 0 := rfl
  have en : (zi n).toNatClampNeg = N := zi_clamp hn h.2.2
  have h9 : zL [999, p1, p2, p3, p4] 0 = 999 := rfl
  simp only [zI, if_pos h9]
  refine ⟨n0, n1, hy0, hy1, by decide, by decide, ?_, by rw [e0, en]; omega, by rw [e0, en]; omega, hcat, by omega, ?_⟩
  · intro hlt
    have h2 : zi n < zi 0 := hlt
    rw [zi_lt (by omega)] at h2
    omega
  · rw [e0, en, zlf_cp]
    exact k Z hZ.1 hZ.2
theorem z_cs {x m' p1 p2 : Nat} {Q' : Option Value → zMI → Prop} (as rest : List Value) (hc : zat m i j (.invokestatic x) [m', p1, p2]) (hst : st = as.reverse ++ rest) (hm : ¬ m' = 999) (hlen : as.length = znp m') (hfit : (lg_sl as).length ≤ zl m') (hcat : zcat rest ≤ 8)
    (k : ZX d m' 0 (lv_args 0 as) [] t Q') (kk : ∀ r t', Q' r t' → ZX (d + 1) m j lv (r.toList ++ rest) t' Q) : ZX (d + 1) m i lv st t Q := by
  obtain ⟨⟨pc, hc⟩, rfl⟩ := hc
  refine zfold hc (fun Z hZ => ?_)
  have h9 : ¬ zL [m', p1, p2] 0 = 999 := hm
  simp only [zI, if_neg h9]
  refine ⟨as, rest, hst, hlen, hfit, hcat, d, rfl, _, k Z hZ.1 hZ.2, ?_⟩
  rintro r σ' ⟨t', rfl, hq⟩
  exact kk r t' hq Z hZ.1 hZ.2
theorem z_cv {x m' p1 p2 p3 b : Nat} {Q' : Option Value → zMI → Prop} (as rest : List Value) (hc : zat m i j (.invokevirtual x) [m', p1, p2, p3]) (hst : st = as.reverse ++ .ref b :: rest) (hlen : as.length = znp m') (hfit : (lg_sl (.ref b :: as)).length ≤ zl m') (hcls : zcls b = zci m') (hcat : zcat rest ≤ 8)
    (k : ZX d m' 0 (lv_args 0 (.ref b :: as)) [] t Q') (kk : ∀ r t', Q' r t' → ZX (d + 1) m j lv (r.toList ++ rest) t' Q) : ZX (d + 1) m i lv st t Q := by
  obtain ⟨⟨pc, hc⟩, rfl⟩ := hc
  refine zfold hc (fun Z hZ => ?_)
  refine ⟨b, as, rest, hst, hlen, hfit, hcls, hcat, d, rfl, _, k Z hZ.1 hZ.2, ?_⟩
  rintro r σ' ⟨t', rfl, hq⟩
  exact kk r t' hq Z hZ.1 hZ.2
theorem z_cv0i {x m' p1 p2 p3 b : Nat} (hc : zat m i j (.invokevirtual x) [m', p1, p2, p3]) (hb : zcls b = zci m') (hn : znp m' = 0 ∧ 1 ≤ zl m' ∧ zcat st ≤ 8) (k : ZX d m' 0 [(0, .ref b)] [] t (zKi fun v t' => ZX (d + 1) m j lv (.int (zi v) :: st) t' Q)) : ZX (d + 1) m i lv (.ref b :: st) t Q :=
  z_cv [] st hc rfl hn.1.symm (by rw [show (lg_sl [.ref b]).length = 1 from by simp [lg_sl, show (Value.ref b).category = 1 from rfl]]; exact hn.2.1) hb hn.2.2 (by rw [show lv_args 0 [.ref b] = [(0, .ref b)] from by simp [lv_args, show (Value.ref b).category = 1 from rfl]]; exact k) (by rintro r t' ⟨v, rfl, h⟩; exact h)
theorem z_cv0v {x m' p1 p2 p3 b : Nat} (hc : zat m i j (.invokevirtual x) [m', p1, p2, p3]) (hb : zcls b = zci m') (hn : znp m' = 0 ∧ 1 ≤ zl m' ∧ zcat st ≤ 8) (k : ZX d m' 0 [(0, .ref b)] [] t (zKv fun t' => ZX (d + 1) m j lv st t' Q)) : ZX (d + 1) m i lv (.ref b :: st) t Q :=
  z_cv [] st hc rfl hn.1.symm (by rw [show (lg_sl [.ref b]).length = 1 from by simp [lg_sl, show (Value.ref b).category = 1 from rfl]]; exact hn.2.1) hb hn.2.2 (by rw [show lv_args 0 [.ref b] = [(0, .ref b)] from by simp [lv_args, show (Value.ref b).category = 1 from rfl]]; exact k) (by rintro r t' ⟨rfl, h⟩; exact h)
theorem z_cs1i {x m' p1 p2 : Nat} {v0 : Value} (hc : zat m i j (.invokestatic x) [m', p1, p2]) (c0 : v0.category = 1) (hn : m' ≠ 999 ∧ znp m' = 1 ∧ 1 ≤ zl m' ∧ zcat st ≤ 8) (k : ZX d m' 0 [(0, v0)] [] t (zKi fun v t' => ZX (d + 1) m j lv (.int (zi v) :: st) t' Q)) : ZX (d + 1) m i lv (v0 :: st) t Q :=
  z_cs [v0] st hc rfl hn.1 hn.2.1.symm (by rw [show (lg_sl [v0]).length = 1 from by simp [lg_sl, c0]]; exact hn.2.2.1) hn.2.2.2 (by rw [show lv_args 0 [v0] = [(0, v0)] from by simp [lv_args, c0]]; exact k) (by rintro r t' ⟨v, rfl, h⟩; exact h)
theorem z_cv1i {x m' p1 p2 p3 b : Nat} {v0 : Value} (hc : zat m i j (.invokevirtual x) [m', p1, p2, p3]) (c0 : v0.category = 1) (hb : zcls b = zci m') (hn : znp m' = 1 ∧ 2 ≤ zl m' ∧ zcat st ≤ 8) (k : ZX d m' 0 [(0, .ref b), (1, v0)] [] t (zKi fun v t' => ZX (d + 1) m j lv (.int (zi v) :: st) t' Q)) : ZX (d + 1) m i lv (v0 :: .ref b :: st) t Q :=
  z_cv [v0] st hc rfl hn.1.symm (by rw [show (lg_sl [.ref b, v0]).length = 2 from by simp [lg_sl, show (Value.ref b).category = 1 from rfl, c0]]; exact hn.2.1) hb hn.2.2 (by rw [show lv_args 0 [.ref b, v0] = [(0, .ref b), (1, v0)] from by simp [lv_args, show (Value.ref b).category = 1 from rfl, c0]]; exact k) (by rintro r t' ⟨v, rfl, h⟩; exact h)
theorem z_cs1v {x m' p1 p2 : Nat} {v0 : Value} (hc : zat m i j (.invokestatic x) [m', p1, p2]) (c0 : v0.category = 1) (hn : m' ≠ 999 ∧ znp m' = 1 ∧ 1 ≤ zl m' ∧ zcat st ≤ 8) (k : ZX d m' 0 [(0, v0)] [] t (zKv fun t' => ZX (d + 1) m j lv st t' Q)) : ZX (d + 1) m i lv (v0 :: st) t Q :=
  z_cs [v0] st hc rfl hn.1 hn.2.1.symm (by rw [show (lg_sl [v0]).length = 1 from by simp [lg_sl, c0]]; exact hn.2.2.1) hn.2.2.2 (by rw [show lv_args 0 [v0] = [(0, v0)] from by simp [lv_args, c0]]; exact k) (by rintro r t' ⟨rfl, h⟩; exact h)
theorem z_cv1v {x m' p1 p2 p3 b : Nat} {v0 : Value} (hc : zat m i j (.invokevirtual x) [m', p1, p2, p3]) (c0 : v0.category = 1) (hb : zcls b = zci m') (hn : znp m' = 1 ∧ 2 ≤ zl m' ∧ zcat st ≤ 8) (k : ZX d m' 0 [(0, .ref b), (1, v0)] [] t (zKv fun t' => ZX (d + 1) m j lv st t' Q)) : ZX (d + 1) m i lv (v0 :: .ref b :: st) t Q :=
  z_cv [v0] st hc rfl hn.1.symm (by rw [show (lg_sl [.ref b, v0]).length = 2 from by simp [lg_sl, show (Value.ref b).category = 1 from rfl, c0]]; exact hn.2.1) hb hn.2.2 (by rw [show lv_args 0 [.ref b, v0] = [(0, .ref b), (1, v0)] from by simp [lv_args, show (Value.ref b).category = 1 from rfl, c0]]; exact k) (by rintro r t' ⟨rfl, h⟩; exact h)
theorem z_cs2i {x m' p1 p2 : Nat} {v0 v1 : Value} (hc : zat m i j (.invokestatic x) [m', p1, p2]) (c0 : v0.category = 1) (c1 : v1.category = 1) (hn : m' ≠ 999 ∧ znp m' = 2 ∧ 2 ≤ zl m' ∧ zcat st ≤ 8) (k : ZX d m' 0 [(0, v0), (1, v1)] [] t (zKi fun v t' => ZX (d + 1) m j lv (.int (zi v) :: st) t' Q)) : ZX (d + 1) m i lv (v1 :: v0 :: st) t Q :=
  z_cs [v0, v1] st hc rfl hn.1 hn.2.1.symm (by rw [show (lg_sl [v0, v1]).length = 2 from by simp [lg_sl, c0, c1]]; exact hn.2.2.1) hn.2.2.2 (by rw [show lv_args 0 [v0, v1] = [(0, v0), (1, v1)] from by simp [lv_args, c0, c1]]; exact k) (by rintro r t' ⟨v, rfl, h⟩; exact h)
theorem z_cv2i {x m' p1 p2 p3 b : Nat} {v0 v1 : Value} (hc : zat m i j (.invokevirtual x) [m', p1, p2, p3]) (c0 : v0.category = 1) (c1 : v1.category = 1) (hb : zcls b = zci m') (hn : znp m' = 2 ∧ 3 ≤ zl m' ∧ zcat st ≤ 8) (k : ZX d m' 0 [(0, .ref b), (1, v0), (2, v1)] [] t (zKi fun v t' => ZX (d + 1) m j lv (.int (zi v) :: st) t' Q)) : ZX (d + 1) m i lv (v1 :: v0 :: .ref b :: st) t Q :=
  z_cv [v0, v1] st hc rfl hn.1.symm (by rw [show (lg_sl [.ref b, v0, v1]).length = 3 from by simp [lg_sl, show (Value.ref b).category = 1 from rfl, c0, c1]]; exact hn.2.1) hb hn.2.2 (by rw [show lv_args 0 [.ref b, v0, v1] = [(0, .ref b), (1, v0), (2, v1)] from by simp [lv_args, show (Value.ref b).category = 1 from rfl, c0, c1]]; exact k) (by rintro r t' ⟨v, rfl, h⟩; exact h)
theorem z_cs2v {x m' p1 p2 : Nat} {v0 v1 : Value} (hc : zat m i j (.invokestatic x) [m', p1, p2]) (c0 : v0.category = 1) (c1 : v1.category = 1) (hn : m' ≠ 999 ∧ znp m' = 2 ∧ 2 ≤ zl m' ∧ zcat st ≤ 8) (k : ZX d m' 0 [(0, v0), (1, v1)] [] t (zKv fun t' => ZX (d + 1) m j lv st t' Q)) : ZX (d + 1) m i lv (v1 :: v0 :: st) t Q :=
  z_cs [v0, v1] st hc rfl hn.1 hn.2.1.symm (by rw [show (lg_sl [v0, v1]).length = 2 from by simp [lg_sl, c0, c1]]; exact hn.2.2.1) hn.2.2.2 (by rw [show lv_args 0 [v0, v1] = [(0, v0), (1, v1)] from by simp [lv_args, c0, c1]]; exact k) (by rintro r t' ⟨rfl, h⟩; exact h)
theorem z_cv2v {x m' p1 p2 p3 b : Nat} {v0 v1 : Value} (hc : zat m i j (.invokevirtual x) [m', p1, p2, p3]) (c0 : v0.category = 1) (c1 : v1.category = 1) (hb : zcls b = zci m') (hn : znp m' = 2 ∧ 3 ≤ zl m' ∧ zcat st ≤ 8) (k : ZX d m' 0 [(0, .ref b), (1, v0), (2, v1)] [] t (zKv fun t' => ZX (d + 1) m j lv st t' Q)) : ZX (d + 1) m i lv (v1 :: v0 :: .ref b :: st) t Q :=
  z_cv [v0, v1] st hc rfl hn.1.symm (by rw [show (lg_sl [.ref b, v0, v1]).length = 3 from by simp [lg_sl, show (Value.ref b).category = 1 from rfl, c0, c1]]; exact hn.2.1) hb hn.2.2 (by rw [show lv_args 0 [.ref b, v0, v1] = [(0, .ref b), (1, v0), (2, v1)] from by simp [lv_args, show (Value.ref b).category = 1 from rfl, c0, c1]]; exact k) (by rintro r t' ⟨rfl, h⟩; exact h)
theorem z_cs3i {x m' p1 p2 : Nat} {v0 v1 v2 : Value} (hc : zat m i j (.invokestatic x) [m', p1, p2]) (c0 : v0.category = 1) (c1 : v1.category = 1) (c2 : v2.category = 1) (hn : m' ≠ 999 ∧ znp m' = 3 ∧ 3 ≤ zl m' ∧ zcat st ≤ 8) (k : ZX d m' 0 [(0, v0), (1, v1), (2, v2)] [] t (zKi fun v t' => ZX (d + 1) m j lv (.int (zi v) :: st) t' Q)) : ZX (d + 1) m i lv (v2 :: v1 :: v0 :: st) t Q :=
  z_cs [v0, v1, v2] st hc rfl hn.1 hn.2.1.symm (by rw [show (lg_sl [v0, v1, v2]).length = 3 from by simp [lg_sl, c0, c1, c2]]; exact hn.2.2.1) hn.2.2.2 (by rw [show lv_args 0 [v0, v1, v2] = [(0, v0), (1, v1), (2, v2)] from by simp [lv_args, c0, c1, c2]]; exact k) (by rintro r t' ⟨v, rfl, h⟩; exact h)
theorem z_cv3i {x m' p1 p2 p3 b : Nat} {v0 v1 v2 : Value} (hc : zat m i j (.invokevirtual x) [m', p1, p2, p3]) (c0 : v0.category = 1) (c1 : v1.category = 1) (c2 : v2.category = 1) (hb : zcls b = zci m') (hn : znp m' = 3 ∧ 4 ≤ zl m' ∧ zcat st ≤ 8) (k : ZX d m' 0 [(0, .ref b), (1, v0), (2, v1), (3, v2)] [] t (zKi fun v t' => ZX (d + 1) m j lv (.int (zi v) :: st) t' Q)) : ZX (d + 1) m i lv (v2 :: v1 :: v0 :: .ref b :: st) t Q :=
  z_cv [v0, v1, v2] st hc rfl hn.1.symm (by rw [show (lg_sl [.ref b, v0, v1, v2]).length = 4 from by simp [lg_sl, show (Value.ref b).category = 1 from rfl, c0, c1, c2]]; exact hn.2.1) hb hn.2.2 (by rw [show lv_args 0 [.ref b, v0, v1, v2] = [(0, .ref b), (1, v0), (2, v1), (3, v2)] from by simp [lv_args, show (Value.ref b).category = 1 from rfl, c0, c1, c2]]; exact k) (by rintro r t' ⟨v, rfl, h⟩; exact h)
theorem z_cs3v {x m' p1 p2 : Nat} {v0 v1 v2 : Value} (hc : zat m i j (.invokestatic x) [m', p1, p2]) (c0 : v0.category = 1) (c1 : v1.category = 1) (c2 : v2.category = 1) (hn : m' ≠ 999 ∧ znp m' = 3 ∧ 3 ≤ zl m' ∧ zcat st ≤ 8) (k : ZX d m' 0 [(0, v0), (1, v1), (2, v2)] [] t (zKv fun t' => ZX (d + 1) m j lv st t' Q)) : ZX (d + 1) m i lv (v2 :: v1 :: v0 :: st) t Q :=
  z_cs [v0, v1, v2] st hc rfl hn.1 hn.2.1.symm (by rw [show (lg_sl [v0, v1, v2]).length = 3 from by simp [lg_sl, c0, c1, c2]]; exact hn.2.2.1) hn.2.2.2 (by rw [show lv_args 0 [v0, v1, v2] = [(0, v0), (1, v1), (2, v2)] from by simp [lv_args, c0, c1, c2]]; exact k) (by rintro r t' ⟨rfl, h⟩; exact h)
theorem z_cv3v {x m' p1 p2 p3 b : Nat} {v0 v1 v2 : Value} (hc : zat m i j (.invokevirtual x) [m', p1, p2, p3]) (c0 : v0.category = 1) (c1 : v1.category = 1) (c2 : v2.category = 1) (hb : zcls b = zci m') (hn : znp m' = 3 ∧ 4 ≤ zl m' ∧ zcat st ≤ 8) (k : ZX d m' 0 [(0, .ref b), (1, v0), (2, v1), (3, v2)] [] t (zKv fun t' => ZX (d + 1) m j lv st t' Q)) : ZX (d + 1) m i lv (v2 :: v1 :: v0 :: .ref b :: st) t Q :=
  z_cv [v0, v1, v2] st hc rfl hn.1.symm (by rw [show (lg_sl [.ref b, v0, v1, v2]).length = 4 from by simp [lg_sl, show (Value.ref b).category = 1 from rfl, c0, c1, c2]]; exact hn.2.1) hb hn.2.2 (by rw [show lv_args 0 [.ref b, v0, v1, v2] = [(0, .ref b), (1, v0), (2, v1), (3, v2)] from by simp [lv_args, show (Value.ref b).category = 1 from rfl, c0, c1, c2]]; exact k) (by rintro r t' ⟨rfl, h⟩; exact h)
theorem z_cs4i {x m' p1 p2 : Nat} {v0 v1 v2 v3 : Value} (hc : zat m i j (.invokestatic x) [m', p1, p2]) (c0 : v0.category = 1) (c1 : v1.category = 1) (c2 : v2.category = 1) (c3 : v3.category = 1) (hn : m' ≠ 999 ∧ znp m' = 4 ∧ 4 ≤ zl m' ∧ zcat st ≤ 8) (k : ZX d m' 0 [(0, v0), (1, v1), (2, v2), (3, v3)] [] t (zKi fun v t' => ZX (d + 1) m j lv (.int (zi v) :: st) t' Q)) : ZX (d + 1) m i lv (v3 :: v2 :: v1 :: v0 :: st) t Q :=
  z_cs [v0, v1, v2, v3] st hc rfl hn.1 hn.2.1.symm (by rw [show (lg_sl [v0, v1, v2, v3]).length = 4 from by simp [lg_sl, c0, c1, c2, c3]]; exact hn.2.2.1) hn.2.2.2 (by rw [show lv_args 0 [v0, v1, v2, v3] = [(0, v0), (1, v1), (2, v2), (3, v3)] from by simp [lv_args, c0, c1, c2, c3]]; exact k) (by rintro r t' ⟨v, rfl, h⟩; exact h)
theorem z_cv4i {x m' p1 p2 p3 b : Nat} {v0 v1 v2 v3 : Value} (hc : zat m i j (.invokevirtual x) [m', p1, p2, p3]) (c0 : v0.category = 1) (c1 : v1.category = 1) (c2 : v2.category = 1) (c3 : v3.category = 1) (hb : zcls b = zci m') (hn : znp m' = 4 ∧ 5 ≤ zl m' ∧ zcat st ≤ 8) (k : ZX d m' 0 [(0, .ref b), (1, v0), (2, v1), (3, v2), (4, v3)] [] t (zKi fun v t' => ZX (d + 1) m j lv (.int (zi v) :: st) t' Q)) : ZX (d + 1) m i lv (v3 :: v2 :: v1 :: v0 :: .ref b :: st) t Q :=
  z_cv [v0, v1, v2, v3] st hc rfl hn.1.symm (by rw [show (lg_sl [.ref b, v0, v1, v2, v3]).length = 5 from by simp [lg_sl, show (Value.ref b).category = 1 from rfl, c0, c1, c2, c3]]; exact hn.2.1) hb hn.2.2 (by rw [show lv_args 0 [.ref b, v0, v1, v2, v3] = [(0, .ref b), (1, v0), (2, v1), (3, v2), (4, v3)] from by simp [lv_args, show (Value.ref b).category = 1 from rfl, c0, c1, c2, c3]]; exact k) (by rintro r t' ⟨v, rfl, h⟩; exact h)
theorem z_cs4v {x m' p1 p2 : Nat} {v0 v1 v2 v3 : Value} (hc : zat m i j (.invokestatic x) [m', p1, p2]) (c0 : v0.category = 1) (c1 : v1.category = 1) (c2 : v2.category = 1) (c3 : v3.category = 1) (hn : m' ≠ 999 ∧ znp m' = 4 ∧ 4 ≤ zl m' ∧ zcat st ≤ 8) (k : ZX d m' 0 [(0, v0), (1, v1), (2, v2), (3, v3)] [] t (zKv fun t' => ZX (d + 1) m j lv st t' Q)) : ZX (d + 1) m i lv (v3 :: v2 :: v1 :: v0 :: st) t Q :=
  z_cs [v0, v1, v2, v3] st hc rfl hn.1 hn.2.1.symm (by rw [show (lg_sl [v0, v1, v2, v3]).length = 4 from by simp [lg_sl, c0, c1, c2, c3]]; exact hn.2.2.1) hn.2.2.2 (by rw [show lv_args 0 [v0, v1, v2, v3] = [(0, v0), (1, v1), (2, v2), (3, v3)] from by simp [lv_args, c0, c1, c2, c3]]; exact k) (by rintro r t' ⟨rfl, h⟩; exact h)
theorem z_cv4v {x m' p1 p2 p3 b : Nat} {v0 v1 v2 v3 : Value} (hc : zat m i j (.invokevirtual x) [m', p1, p2, p3]) (c0 : v0.category = 1) (c1 : v1.category = 1) (c2 : v2.category = 1) (c3 : v3.category = 1) (hb : zcls b = zci m') (hn : znp m' = 4 ∧ 5 ≤ zl m' ∧ zcat st ≤ 8) (k : ZX d m' 0 [(0, .ref b), (1, v0), (2, v1), (3, v2), (4, v3)] [] t (zKv fun t' => ZX (d + 1) m j lv st t' Q)) : ZX (d + 1) m i lv (v3 :: v2 :: v1 :: v0 :: .ref b :: st) t Q :=
  z_cv [v0, v1, v2, v3] st hc rfl hn.1.symm (by rw [show (lg_sl [.ref b, v0, v1, v2, v3]).length = 5 from by simp [lg_sl, show (Value.ref b).category = 1 from rfl, c0, c1, c2, c3]]; exact hn.2.1) hb hn.2.2 (by rw [show lv_args 0 [.ref b, v0, v1, v2, v3] = [(0, .ref b), (1, v0), (2, v1), (3, v2), (4, v3)] from by simp [lv_args, show (Value.ref b).category = 1 from rfl, c0, c1, c2, c3]]; exact k) (by rintro r t' ⟨rfl, h⟩; exact h)
theorem z_cs5i {x m' p1 p2 : Nat} {v0 v1 v2 v3 v4 : Value} (hc : zat m i j (.invokestatic x) [m', p1, p2]) (c0 : v0.category = 1) (c1 : v1.category = 1) (c2 : v2.category = 1) (c3 : v3.category = 1) (c4 : v4.category = 1) (hn : m' ≠ 999 ∧ znp m' = 5 ∧ 5 ≤ zl m' ∧ zcat st ≤ 8) (k : ZX d m' 0 [(0, v0), (1, v1), (2, v2), (3, v3), (4, v4)] [] t (zKi fun v t' => ZX (d + 1) m j lv (.int (zi v) :: st) t' Q)) : ZX (d + 1) m i lv (v4 :: v3 :: v2 :: v1 :: v0 :: st) t Q :=
  z_cs [v0, v1, v2, v3, v4] st hc rfl hn.1 hn.2.1.symm (by rw [show (lg_sl [v0, v1, v2, v3, v4]).length = 5 from by simp [lg_sl, c0, c1, c2, c3, c4]]; exact hn.2.2.1) hn.2.2.2 (by rw [show lv_args 0 [v0, v1, v2, v3, v4] = [(0, v0), (1, v1), (2, v2), (3, v3), (4, v4)] from by simp [lv_args, c0, c1, c2, c3, c4]]; exact k) (by rintro r t' ⟨v, rfl, h⟩; exact h)
theorem z_cv5i {x m' p1 p2 p3 b : Nat} {v0 v1 v2 v3 v4 : Value} (hc : zat m i j (.invokevirtual x) [m', p1, p2, p3]) (c0 : v0.category = 1) (c1 : v1.category = 1) (c2 : v2.category = 1) (c3 : v3.category = 1) (c4 : v4.category = 1) (hb : zcls b = zci m') (hn : znp m' = 5 ∧ 6 ≤ zl m' ∧ zcat st ≤ 8) (k : ZX d m' 0 [(0, .ref b), (1, v0), (2, v1), (3, v2), (4, v3), (5, v4)] [] t (zKi fun v t' => ZX (d + 1) m j lv (.int (zi v) :: st) t' Q)) : ZX (d + 1) m i lv (v4 :: v3 :: v2 :: v1 :: v0 :: .ref b :: st) t Q :=
  z_cv [v0, v1, v2, v3, v4] st hc rfl hn.1.symm (by rw [show (lg_sl [.ref b, v0, v1, v2, v3, v4]).length = 6 from by simp [lg_sl, show (Value.ref b).category = 1 from rfl, c0, c1, c2, c3, c4]]; exact hn.2.1) hb hn.2.2 (by rw [show lv_args 0 [.ref b, v0, v1, v2, v3, v4] = [(0, .ref b), (1, v0), (2, v1), (3, v2), (4, v3), (5, v4)] from by simp [lv_args, show (Value.ref b).category = 1 from rfl, c0, c1, c2, c3, c4]]; exact k) (by rintro r t' ⟨v, rfl, h⟩; exact h)
theorem z_cs5v {x m' p1 p2 : Nat} {v0 v1 v2 v3 v4 : Value} (hc : zat m i j (.invokestatic x) [m', p1, p2]) (c0 : v0.category = 1) (c1 : v1.category = 1) (c2 : v2.category = 1) (c3 : v3.category = 1) (c4 : v4.category = 1) (hn : m' ≠ 999 ∧ znp m' = 5 ∧ 5 ≤ zl m' ∧ zcat st ≤ 8) (k : ZX d m' 0 [(0, v0), (1, v1), (2, v2), (3, v3), (4, v4)] [] t (zKv fun t' => ZX (d + 1) m j lv st t' Q)) : ZX (d + 1) m i lv (v4 :: v3 :: v2 :: v1 :: v0 :: st) t Q :=
  z_cs [v0, v1, v2, v3, v4] st hc rfl hn.1 hn.2.1.symm (by rw [show (lg_sl [v0, v1, v2, v3, v4]).length = 5 from by simp [lg_sl, c0, c1, c2, c3, c4]]; exact hn.2.2.1) hn.2.2.2 (by rw [show lv_args 0 [v0, v1, v2, v3, v4] = [(0, v0), (1, v1), (2, v2), (3, v3), (4, v4)] from by simp [lv_args, c0, c1, c2, c3, c4]]; exact k) (by rintro r t' ⟨rfl, h⟩; exact h)
theorem z_cv5v {x m' p1 p2 p3 b : Nat} {v0 v1 v2 v3 v4 : Value} (hc : zat m i j (.invokevirtual x) [m', p1, p2, p3]) (c0 : v0.category = 1) (c1 : v1.category = 1) (c2 : v2.category = 1) (c3 : v3.category = 1) (c4 : v4.category = 1) (hb : zcls b = zci m') (hn : znp m' = 5 ∧ 6 ≤ zl m' ∧ zcat st ≤ 8) (k : ZX d m' 0 [(0, .ref b), (1, v0), (2, v1), (3, v2), (4, v3), (5, v4)] [] t (zKv fun t' => ZX (d + 1) m j lv st t' Q)) : ZX (d + 1) m i lv (v4 :: v3 :: v2 :: v1 :: v0 :: .ref b :: st) t Q :=
  z_cv [v0, v1, v2, v3, v4] st hc rfl hn.1.symm (by rw [show (lg_sl [.ref b, v0, v1, v2, v3, v4]).length = 6 from by simp [lg_sl, show (Value.ref b).category = 1 from rfl, c0, c1, c2, c3, c4]]; exact hn.2.1) hb hn.2.2 (by rw [show lv_args 0 [.ref b, v0, v1, v2, v3, v4] = [(0, .ref b), (1, v0), (2, v1), (3, v2), (4, v3), (5, v4)] from by simp [lv_args, show (Value.ref b).category = 1 from rfl, c0, c1, c2, c3, c4]]; exact k) (by rintro r t' ⟨rfl, h⟩; exact h)
theorem z_cs6i {x m' p1 p2 : Nat} {v0 v1 v2 v3 v4 v5 : Value} (hc : zat m i j (.invokestatic x) [m', p1, p2]) (c0 : v0.category = 1) (c1 : v1.category = 1) (c2 : v2.category = 1) (c3 : v3.category = 1) (c4 : v4.category = 1) (c5 : v5.category = 1) (hn : m' ≠ 999 ∧ znp m' = 6 ∧ 6 ≤ zl m' ∧ zcat st ≤ 8) (k : ZX d m' 0 [(0, v0), (1, v1), (2, v2), (3, v3), (4, v4), (5, v5)] [] t (zKi fun v t' => ZX (d + 1) m j lv (.int (zi v) :: st) t' Q)) : ZX (d + 1) m i lv (v5 :: v4 :: v3 :: v2 :: v1 :: v0 :: st) t Q :=
  z_cs [v0, v1, v2, v3, v4, v5] st hc rfl hn.1 hn.2.1.symm (by rw [show (lg_sl [v0, v1, v2, v3, v4, v5]).length = 6 from by simp [lg_sl, c0, c1, c2, c3, c4, c5]]; exact hn.2.2.1) hn.2.2.2 (by rw [show lv_args 0 [v0, v1, v2, v3, v4, v5] = [(0, v0), (1, v1), (2, v2), (3, v3), (4, v4), (5, v5)] from by simp [lv_args, c0, c1, c2, c3, c4, c5]]; exact k) (by rintro r t' ⟨v, rfl, h⟩; exact h)
theorem z_cv6i {x m' p1 p2 p3 b : Nat} {v0 v1 v2 v3 v4 v5 : Value} (hc : zat m i j (.invokevirtual x) [m', p1, p2, p3]) (c0 : v0.category = 1) (c1 : v1.category = 1) (c2 : v2.category = 1) (c3 : v3.category = 1) (c4 : v4.category = 1) (c5 : v5.category = 1) (hb : zcls b = zci m') (hn : znp m' = 6 ∧ 7 ≤ zl m' ∧ zcat st ≤ 8) (k : ZX d m' 0 [(0, .ref b), (1, v0), (2, v1), (3, v2), (4, v3), (5, v4), (6, v5)] [] t (zKi fun v t' => ZX (d + 1) m j lv (.int (zi v) :: st) t' Q)) : ZX (d + 1) m i lv (v5 :: v4 :: v3 :: v2 :: v1 :: v0 :: .ref b :: st) t Q :=
  z_cv [v0, v1, v2, v3, v4, v5] st hc rfl hn.1.symm (by rw [show (lg_sl [.ref b, v0, v1, v2, v3, v4, v5]).length = 7 from by simp [lg_sl, show (Value.ref b).category = 1 from rfl, c0, c1, c2, c3, c4, c5]]; exact hn.2.1) hb hn.2.2 (by rw [show lv_args 0 [.ref b, v0, v1, v2, v3, v4, v5] = [(0, .ref b), (1, v0), (2, v1), (3, v2), (4, v3), (5, v4), (6, v5)] from by simp [lv_args, show (Value.ref b).category = 1 from rfl, c0, c1, c2, c3, c4, c5]]; exact k) (by rintro r t' ⟨v, rfl, h⟩; exact h)
theorem z_cs6v {x m' p1 p2 : Nat} {v0 v1 v2 v3 v4 v5 : Value} (hc : zat m i j (.invokestatic x) [m', p1, p2]) (c0 : v0.category = 1) (c1 : v1.category = 1) (c2 : v2.category = 1) (c3 : v3.category = 1) (c4 : v4.category = 1) (c5 : v5.category = 1) (hn : m' ≠ 999 ∧ znp m' = 6 ∧ 6 ≤ zl m' ∧ zcat st ≤ 8) (k : ZX d m' 0 [(0, v0), (1, v1), (2, v2), (3, v3), (4, v4), (5, v5)] [] t (zKv fun t' => ZX (d + 1) m j lv st t' Q)) : ZX (d + 1) m i lv (v5 :: v4 :: v3 :: v2 :: v1 :: v0 :: st) t Q :=
  z_cs [v0, v1, v2, v3, v4, v5] st hc rfl hn.1 hn.2.1.symm (by rw [show (lg_sl [v0, v1, v2, v3, v4, v5]).length = 6 from by simp [lg_sl, c0, c1, c2, c3, c4, c5]]; exact hn.2.2.1) hn.2.2.2 (by rw [show lv_args 0 [v0, v1, v2, v3, v4, v5] = [(0, v0), (1, v1), (2, v2), (3, v3), (4, v4), (5, v5)] from by simp [lv_args, c0, c1, c2, c3, c4, c5]]; exact k) (by rintro r t' ⟨rfl, h⟩; exact h)
theorem z_cv6v {x m' p1 p2 p3 b : Nat} {v0 v1 v2 v3 v4 v5 : Value} (hc : zat m i j (.invokevirtual x) [m', p1, p2, p3]) (c0 : v0.category = 1) (c1 : v1.category = 1) (c2 : v2.category = 1) (c3 : v3.category = 1) (c4 : v4.category = 1) (c5 : v5.category = 1) (hb : zcls b = zci m') (hn : znp m' = 6 ∧ 7 ≤ zl m' ∧ zcat st ≤ 8) (k : ZX d m' 0 [(0, .ref b), (1, v0), (2, v1), (3, v2), (4, v3), (5, v4), (6, v5)] [] t (zKv fun t' => ZX (d + 1) m j lv st t' Q)) : ZX (d + 1) m i lv (v5 :: v4 :: v3 :: v2 :: v1 :: v0 :: .ref b :: st) t Q :=
  z_cv [v0, v1, v2, v3, v4, v5] st hc rfl hn.1.symm (by rw [show (lg_sl [.ref b, v0, v1, v2, v3, v4, v5]).length = 7 from by simp [lg_sl, show (Value.ref b).category = 1 from rfl, c0, c1, c2, c3, c4, c5]]; exact hn.2.1) hb hn.2.2 (by rw [show lv_args 0 [.ref b, v0, v1, v2, v3, v4, v5] = [(0, .ref b), (1, v0), (2, v1), (3, v2), (4, v3), (5, v4), (6, v5)] from by simp [lv_args, show (Value.ref b).category = 1 from rfl, c0, c1, c2, c3, c4, c5]]; exact k) (by rintro r t' ⟨rfl, h⟩; exact h)
end
end
section
/-! a theorem a row of code -/
theorem zat_of {m i pc : Nat} {I : Instr} {L : List Nat} {rows : List zR} (h : zP m = rows) (h2 : rows[i]? = some (pc, I, L)) : zat m i (i + 1) I L := ⟨⟨pc, by rw [h]; exact h2⟩, rfl⟩
theorem zP_0 : zP 0 = zk_0 := rfl
theorem zi_0_0 : zat 0 0 1 (.aload_n 0) [] := zat_of zP_0 rfl
theorem zi_0_1 : zat 0 1 2 (.getfield 15) [0, 1, 140] := zat_of zP_0 rfl
theorem zi_0_2 : zat 0 2 3 (.ifCond .ne 7) [5] := zat_of zP_0 rfl
theorem zi_0_3 : zat 0 3 4 (.iconst 1) [] := zat_of zP_0 rfl
theorem zi_0_4 : zat 0 4 5 (.goto 4) [6] := zat_of zP_0 rfl
theorem zi_0_5 : zat 0 5 6 (.iconst 0) [] := zat_of zP_0 rfl
theorem zi_0_6 : zat 0 6 7 (.ireturn) [] := zat_of zP_0 rfl
theorem zP_1 : zP 1 = zk_1 := rfl
theorem zi_1_0 : zat 1 0 1 (.aload_n 0) [] := zat_of zP_1 rfl
theorem zi_1_1 : zat 1 1 2 (.iconst 1) [] := zat_of zP_1 rfl
theorem zi_1_2 : zat 1 2 3 (.putfield 15) [0, 1, 140] := zat_of zP_1 rfl
theorem zi_1_3 : zat 1 3 4 (.aload_n 0) [] := zat_of zP_1 rfl
theorem zi_1_4 : zat 1 4 5 (.iload_n 1) [] := zat_of zP_1 rfl
theorem zi_1_5 : zat 1 5 6 (.putfield 19) [0, 2, 141] := zat_of zP_1 rfl
theorem zi_1_6 : zat 1 6 7 (.aload_n 0) [] := zat_of zP_1 rfl
theorem zi_1_7 : zat 1 7 8 (.iload_n 2) [] := zat_of zP_1 rfl
theorem zi_1_8 : zat 1 8 9 (.putfield 23) [0, 3, 142] := zat_of zP_1 rfl
theorem zi_1_9 : zat 1 9 10 (.iconst 0) [] := zat_of zP_1 rfl
theorem zi_1_10 : zat 1 10 11 (.istore_n 3) [] := zat_of zP_1 rfl
theorem zi_1_11 : zat 1 11 12 (.iload_n 3) [] := zat_of zP_1 rfl
theorem zi_1_12 : zat 1 12 13 (.bipush 24) [] := zat_of zP_1 rfl
theorem zi_1_13 : zat 1 13 14 (.if_icmp .ge 18) [21] := zat_of zP_1 rfl
theorem zi_1_14 : zat 1 14 15 (.aload_n 0) [] := zat_of zP_1 rfl
theorem zi_1_15 : zat 1 15 16 (.getfield 9) [0, 0, 139] := zat_of zP_1 rfl
theorem zi_1_16 : zat 1 16 17 (.iload_n 3) [] := zat_of zP_1 rfl
theorem zi_1_17 : zat 1 17 18 (.iconst 0) [] := zat_of zP_1 rfl
theorem zi_1_18 : zat 1 18 19 (.invokestatic 26) [110, 645, 199] := zat_of zP_1 rfl
theorem zi_1_19 : zat 1 19 20 (.iinc 3 1) [] := zat_of zP_1 rfl
theorem zi_1_20 : zat 1 20 21 (.goto (-18)) [11] := zat_of zP_1 rfl
theorem zi_1_21 : zat 1 21 22 (.return_) [] := zat_of zP_1 rfl
theorem zP_2 : zP 2 = zk_2 := rfl
theorem zi_2_0 : zat 2 0 1 (.aload_n 0) [] := zat_of zP_2 rfl
theorem zi_2_1 : zat 2 1 2 (.iconst 0) [] := zat_of zP_2 rfl
theorem zi_2_2 : zat 2 2 3 (.putfield 15) [0, 1, 140] := zat_of zP_2 rfl
theorem zi_2_3 : zat 2 3 4 (.aload_n 0) [] := zat_of zP_2 rfl
theorem zi_2_4 : zat 2 4 5 (.getfield 23) [0, 3, 142] := zat_of zP_2 rfl
theorem zi_2_5 : zat 2 5 6 (.ireturn) [] := zat_of zP_2 rfl
theorem zP_3 : zP 3 = zk_3 := rfl
theorem zi_3_0 : zat 3 0 1 (.aload_n 0) [] := zat_of zP_3 rfl
theorem zi_3_1 : zat 3 1 2 (.getfield 15) [0, 1, 140] := zat_of zP_3 rfl
theorem zi_3_2 : zat 3 2 3 (.ifCond .ne 6) [5] := zat_of zP_3 rfl
theorem zi_3_3 : zat 3 3 4 (.bipush (-11)) [] := zat_of zP_3 rfl
theorem zi_3_4 : zat 3 4 5 (.ireturn) [] := zat_of zP_3 rfl
theorem zi_3_5 : zat 3 5 6 (.iload_n 1) [] := zat_of zP_3 rfl
theorem zi_3_6 : zat 3 6 7 (.aload_n 0) [] := zat_of zP_3 rfl
theorem zi_3_7 : zat 3 7 8 (.getfield 19) [0, 2, 141] := zat_of zP_3 rfl
theorem zi_3_8 : zat 3 8 9 (.if_icmp .eq 6) [11] := zat_of zP_3 rfl
theorem zi_3_9 : zat 3 9 10 (.bipush (-12)) [] := zat_of zP_3 rfl
theorem zi_3_10 : zat 3 10 11 (.ireturn) [] := zat_of zP_3 rfl
theorem zi_3_11 : zat 3 11 12 (.iload_n 2) [] := zat_of zP_3 rfl
theorem zi_3_12 : zat 3 12 13 (.ifCond .lt 13) [19] := zat_of zP_3 rfl
theorem zi_3_13 : zat 3 13 14 (.iload_n 2) [] := zat_of zP_3 rfl
theorem zi_3_14 : zat 3 14 15 (.aload_n 0) [] := zat_of zP_3 rfl
theorem zi_3_15 : zat 3 15 16 (.getfield 23) [0, 3, 142] := zat_of zP_3 rfl
theorem zi_3_16 : zat 3 16 17 (.iload_n 3) [] := zat_of zP_3 rfl
theorem zi_3_17 : zat 3 17 18 (.isub) [] := zat_of zP_3 rfl
theorem zi_3_18 : zat 3 18 19 (.if_icmp .le 8) [21] := zat_of zP_3 rfl
theorem zi_3_19 : zat 3 19 20 (.bipush (-13)) [] := zat_of zP_3 rfl
theorem zi_3_20 : zat 3 20 21 (.goto 4) [22] := zat_of zP_3 rfl
theorem zi_3_21 : zat 3 21 22 (.iconst 0) [] := zat_of zP_3 rfl
theorem zi_3_22 : zat 3 22 23 (.ireturn) [] := zat_of zP_3 rfl
theorem zP_4 : zP 4 = zk_4 := rfl
theorem zi_4_0 : zat 4 0 1 (.aload_n 0) [] := zat_of zP_4 rfl
theorem zi_4_1 : zat 4 1 2 (.getfield 9) [0, 0, 139] := zat_of zP_4 rfl
theorem zi_4_2 : zat 4 2 3 (.iload_n 1) [] := zat_of zP_4 rfl
theorem zi_4_3 : zat 4 3 4 (.invokestatic 30) [109, 592, 225] := zat_of zP_4 rfl
theorem zi_4_4 : zat 4 4 5 (.ireturn) [] := zat_of zP_4 rfl
theorem zP_5 : zP 5 = zk_5 := rfl
theorem zi_5_0 : zat 5 0 1 (.aload_n 0) [] := zat_of zP_5 rfl
theorem zi_5_1 : zat 5 1 2 (.getfield 9) [0, 0, 139] := zat_of zP_5 rfl
theorem zi_5_2 : zat 5 2 3 (.iload_n 1) [] := zat_of zP_5 rfl
theorem zi_5_3 : zat 5 3 4 (.aload_n 0) [] := zat_of zP_5 rfl
theorem zi_5_4 : zat 5 4 5 (.getfield 19) [0, 2, 141] := zat_of zP_5 rfl
theorem zi_5_5 : zat 5 5 6 (.ifCond .ne 8) [9] := zat_of zP_5 rfl
theorem zi_5_6 : zat 5 6 7 (.iload_n 2) [] := zat_of zP_5 rfl
theorem zi_5_7 : zat 5 7 8 (.i2b) [] := zat_of zP_5 rfl
theorem zi_5_8 : zat 5 8 9 (.goto 17) [17] := zat_of zP_5 rfl
theorem zi_5_9 : zat 5 9 10 (.aload_n 0) [] := zat_of zP_5 rfl
theorem zi_5_10 : zat 5 10 11 (.getfield 19) [0, 2, 141] := zat_of zP_5 rfl
theorem zi_5_11 : zat 5 11 12 (.iconst 1) [] := zat_of zP_5 rfl
theorem zi_5_12 : zat 5 12 13 (.if_icmp .ne 8) [16] := zat_of zP_5 rfl
theorem zi_5_13 : zat 5 13 14 (.iload_n 2) [] := zat_of zP_5 rfl
theorem zi_5_14 : zat 5 14 15 (.i2s) [] := zat_of zP_5 rfl
theorem zi_5_15 : zat 5 15 16 (.goto 4) [17] := zat_of zP_5 rfl
theorem zi_5_16 : zat 5 16 17 (.iload_n 2) [] := zat_of zP_5 rfl
theorem zi_5_17 : zat 5 17 18 (.invokestatic 26) [110, 645, 199] := zat_of zP_5 rfl
theorem zi_5_18 : zat 5 18 19 (.return_) [] := zat_of zP_5 rfl
theorem zP_6 : zP 6 = zk_6 := rfl
theorem zi_6_0 : zat 6 0 1 (.aload_n 0) [] := zat_of zP_6 rfl
theorem zi_6_1 : zat 6 1 2 (.aload_n 1) [] := zat_of zP_6 rfl
theorem zi_6_2 : zat 6 2 3 (.getfield 40) [1, 0, 78] := zat_of zP_6 rfl
theorem zi_6_3 : zat 6 3 4 (.putfield 40) [1, 0, 78] := zat_of zP_6 rfl
theorem zi_6_4 : zat 6 4 5 (.aload_n 1) [] := zat_of zP_6 rfl
theorem zi_6_5 : zat 6 5 6 (.getfield 9) [1, 1, 79] := zat_of zP_6 rfl
theorem zi_6_6 : zat 6 6 7 (.aload_n 0) [] := zat_of zP_6 rfl
theorem zi_6_7 : zat 6 7 8 (.getfield 9) [1, 1, 79] := zat_of zP_6 rfl
theorem zi_6_8 : zat 6 8 9 (.invokestatic 43) [111, 289, 290] := zat_of zP_6 rfl
theorem zi_6_9 : zat 6 9 10 (.aload_n 1) [] := zat_of zP_6 rfl
theorem zi_6_10 : zat 6 10 11 (.getfield 15) [1, 2, 80] := zat_of zP_6 rfl
theorem zi_6_11 : zat 6 11 12 (.aload_n 0) [] := zat_of zP_6 rfl
theorem zi_6_12 : zat 6 12 13 (.getfield 15) [1, 2, 80] := zat_of zP_6 rfl
theorem zi_6_13 : zat 6 13 14 (.invokestatic 43) [111, 289, 290] := zat_of zP_6 rfl
theorem zi_6_14 : zat 6 14 15 (.aload_n 1) [] := zat_of zP_6 rfl
theorem zi_6_15 : zat 6 15 16 (.getfield 18) [1, 3, 81] := zat_of zP_6 rfl
theorem zi_6_16 : zat 6 16 17 (.aload_n 0) [] := zat_of zP_6 rfl
theorem zi_6_17 : zat 6 17 18 (.getfield 18) [1, 3, 81] := zat_of zP_6 rfl
theorem zi_6_18 : zat 6 18 19 (.invokestatic 43) [111, 289, 290] := zat_of zP_6 rfl
theorem zi_6_19 : zat 6 19 20 (.aload_n 1) [] := zat_of zP_6 rfl
theorem zi_6_20 : zat 6 20 21 (.getfield 21) [1, 4, 82] := zat_of zP_6 rfl
theorem zi_6_21 : zat 6 21 22 (.aload_n 0) [] := zat_of zP_6 rfl
theorem zi_6_22 : zat 6 22 23 (.getfield 21) [1, 4, 82] := zat_of zP_6 rfl
theorem zi_6_23 : zat 6 23 24 (.invokestatic 43) [111, 289, 290] := zat_of zP_6 rfl
theorem zi_6_24 : zat 6 24 25 (.aload_n 1) [] := zat_of zP_6 rfl
theorem zi_6_25 : zat 6 25 26 (.getfield 24) [1, 5, 83] := zat_of zP_6 rfl
theorem zi_6_26 : zat 6 26 27 (.aload_n 0) [] := zat_of zP_6 rfl
theorem zi_6_27 : zat 6 27 28 (.getfield 24) [1, 5, 83] := zat_of zP_6 rfl
theorem zi_6_28 : zat 6 28 29 (.invokestatic 43) [111, 289, 290] := zat_of zP_6 rfl
theorem zi_6_29 : zat 6 29 30 (.aload_n 1) [] := zat_of zP_6 rfl
theorem zi_6_30 : zat 6 30 31 (.getfield 27) [1, 6, 84] := zat_of zP_6 rfl
theorem zi_6_31 : zat 6 31 32 (.aload_n 0) [] := zat_of zP_6 rfl
theorem zi_6_32 : zat 6 32 33 (.getfield 27) [1, 6, 84] := zat_of zP_6 rfl
theorem zi_6_33 : zat 6 33 34 (.invokestatic 43) [111, 289, 290] := zat_of zP_6 rfl
theorem zi_6_34 : zat 6 34 35 (.aload_n 0) [] := zat_of zP_6 rfl
theorem zi_6_35 : zat 6 35 36 (.aload_n 1) [] := zat_of zP_6 rfl
theorem zi_6_36 : zat 6 36 37 (.getfield 47) [1, 7, 85] := zat_of zP_6 rfl
theorem zi_6_37 : zat 6 37 38 (.putfield 47) [1, 7, 85] := zat_of zP_6 rfl
theorem zi_6_38 : zat 6 38 39 (.aload_n 1) [] := zat_of zP_6 rfl
theorem zi_6_39 : zat 6 39 40 (.getfield 30) [1, 8, 86] := zat_of zP_6 rfl
theorem zi_6_40 : zat 6 40 41 (.aload_n 0) [] := zat_of zP_6 rfl
theorem zi_6_41 : zat 6 41 42 (.getfield 30) [1, 8, 86] := zat_of zP_6 rfl
theorem zi_6_42 : zat 6 42 43 (.invokestatic 43) [111, 289, 290] := zat_of zP_6 rfl
theorem zi_6_43 : zat 6 43 44 (.aload_n 0) [] := zat_of zP_6 rfl
theorem zi_6_44 : zat 6 44 45 (.aload_n 1) [] := zat_of zP_6 rfl
theorem zi_6_45 : zat 6 45 46 (.getfield 50) [1, 9, 87] := zat_of zP_6 rfl
theorem zi_6_46 : zat 6 46 47 (.putfield 50) [1, 9, 87] := zat_of zP_6 rfl
theorem zi_6_47 : zat 6 47 48 (.aload_n 1) [] := zat_of zP_6 rfl
theorem zi_6_48 : zat 6 48 49 (.getfield 33) [1, 10, 88] := zat_of zP_6 rfl
theorem zi_6_49 : zat 6 49 50 (.aload_n 0) [] := zat_of zP_6 rfl
theorem zi_6_50 : zat 6 50 51 (.getfield 33) [1, 10, 88] := zat_of zP_6 rfl
theorem zi_6_51 : zat 6 51 52 (.invokestatic 43) [111, 289, 290] := zat_of zP_6 rfl
theorem zi_6_52 : zat 6 52 53 (.aload_n 0) [] := zat_of zP_6 rfl
theorem zi_6_53 : zat 6 53 54 (.aload_n 1) [] := zat_of zP_6 rfl
theorem zi_6_54 : zat 6 54 55 (.getfield 36) [1, 11, 89] := zat_of zP_6 rfl
theorem zi_6_55 : zat 6 55 56 (.putfield 36) [1, 11, 89] := zat_of zP_6 rfl
theorem zi_6_56 : zat 6 56 57 (.return_) [] := zat_of zP_6 rfl
theorem zP_7 : zP 7 = zk_7 := rfl
theorem zi_7_0 : zat 7 0 1 (.aload_n 0) [] := zat_of zP_7 rfl
theorem zi_7_1 : zat 7 1 2 (.iconst 0) [] := zat_of zP_7 rfl
theorem zi_7_2 : zat 7 2 3 (.putfield 40) [1, 0, 78] := zat_of zP_7 rfl
theorem zi_7_3 : zat 7 3 4 (.aload_n 0) [] := zat_of zP_7 rfl
theorem zi_7_4 : zat 7 4 5 (.iconst 0) [] := zat_of zP_7 rfl
theorem zi_7_5 : zat 7 5 6 (.putfield 47) [1, 7, 85] := zat_of zP_7 rfl
theorem zi_7_6 : zat 7 6 7 (.aload_n 0) [] := zat_of zP_7 rfl
theorem zi_7_7 : zat 7 7 8 (.iconst 0) [] := zat_of zP_7 rfl
theorem zi_7_8 : zat 7 8 9 (.putfield 50) [1, 9, 87] := zat_of zP_7 rfl
theorem zi_7_9 : zat 7 9 10 (.aload_n 0) [] := zat_of zP_7 rfl
theorem zi_7_10 : zat 7 10 11 (.getfield 33) [1, 10, 88] := zat_of zP_7 rfl
theorem zi_7_11 : zat 7 11 12 (.iconst 0) [] := zat_of zP_7 rfl
theorem zi_7_12 : zat 7 12 13 (.iconst 0) [] := zat_of zP_7 rfl
theorem zi_7_13 : zat 7 13 14 (.invokestatic 54) [110, 198, 199] := zat_of zP_7 rfl
theorem zi_7_14 : zat 7 14 15 (.aload_n 0) [] := zat_of zP_7 rfl
theorem zi_7_15 : zat 7 15 16 (.getfield 33) [1, 10, 88] := zat_of zP_7 rfl
theorem zi_7_16 : zat 7 16 17 (.iconst 1) [] := zat_of zP_7 rfl
theorem zi_7_17 : zat 7 17 18 (.iconst 0) [] := zat_of zP_7 rfl
theorem zi_7_18 : zat 7 18 19 (.invokestatic 54) [110, 198, 199] := zat_of zP_7 rfl
theorem zi_7_19 : zat 7 19 20 (.return_) [] := zat_of zP_7 rfl
theorem zP_8 : zP 8 = zk_8 := rfl
theorem zi_8_0 : zat 8 0 1 (.aload_n 0) [] := zat_of zP_8 rfl
theorem zi_8_1 : zat 8 1 2 (.getfield 40) [1, 0, 78] := zat_of zP_8 rfl
theorem zi_8_2 : zat 8 2 3 (.bipush 12) [] := zat_of zP_8 rfl
theorem zi_8_3 : zat 8 3 4 (.if_icmp .lt 7) [6] := zat_of zP_8 rfl
theorem zi_8_4 : zat 8 4 5 (.iconst 1) [] := zat_of zP_8 rfl
theorem zi_8_5 : zat 8 5 6 (.goto 4) [7] := zat_of zP_8 rfl
theorem zi_8_6 : zat 8 6 7 (.iconst 0) [] := zat_of zP_8 rfl
theorem zi_8_7 : zat 8 7 8 (.ireturn) [] := zat_of zP_8 rfl
theorem zP_9 : zP 9 = zk_9 := rfl
theorem zi_9_0 : zat 9 0 1 (.aload_n 0) [] := zat_of zP_9 rfl
theorem zi_9_1 : zat 9 1 2 (.getfield 40) [1, 0, 78] := zat_of zP_9 rfl
theorem zi_9_2 : zat 9 2 3 (.istore 4) [] := zat_of zP_9 rfl
theorem zi_9_3 : zat 9 3 4 (.aload_n 0) [] := zat_of zP_9 rfl
theorem zi_9_4 : zat 9 4 5 (.getfield 9) [1, 1, 79] := zat_of zP_9 rfl
theorem zi_9_5 : zat 9 5 6 (.iload 4) [] := zat_of zP_9 rfl
theorem zi_9_6 : zat 9 6 7 (.iload_n 1) [] := zat_of zP_9 rfl
theorem zi_9_7 : zat 9 7 8 (.invokestatic 54) [110, 198, 199] := zat_of zP_9 rfl
theorem zi_9_8 : zat 9 8 9 (.aload_n 0) [] := zat_of zP_9 rfl
theorem zi_9_9 : zat 9 9 10 (.getfield 15) [1, 2, 80] := zat_of zP_9 rfl
theorem zi_9_10 : zat 9 10 11 (.iconst 2) [] := zat_of zP_9 rfl
theorem zi_9_11 : zat 9 11 12 (.iload 4) [] := zat_of zP_9 rfl
theorem zi_9_12 : zat 9 12 13 (.imul) [] := zat_of zP_9 rfl
theorem zi_9_13 : zat 9 13 14 (.iload_n 2) [] := zat_of zP_9 rfl
theorem zi_9_14 : zat 9 14 15 (.invokestatic 54) [110, 198, 199] := zat_of zP_9 rfl
theorem zi_9_15 : zat 9 15 16 (.aload_n 0) [] := zat_of zP_9 rfl
theorem zi_9_16 : zat 9 16 17 (.getfield 15) [1, 2, 80] := zat_of zP_9 rfl
theorem zi_9_17 : zat 9 17 18 (.iconst 2) [] := zat_of zP_9 rfl
theorem zi_9_18 : zat 9 18 19 (.iload 4) [] := zat_of zP_9 rfl
theorem zi_9_19 : zat 9 19 20 (.imul) [] := zat_of zP_9 rfl
theorem zi_9_20 : zat 9 20 21 (.iconst 1) [] := zat_of zP_9 rfl
theorem zi_9_21 : zat 9 21 22 (.iadd) [] := zat_of zP_9 rfl
theorem zi_9_22 : zat 9 22 23 (.iload_n 3) [] := zat_of zP_9 rfl
theorem zi_9_23 : zat 9 23 24 (.invokestatic 54) [110, 198, 199] := zat_of zP_9 rfl
theorem zi_9_24 : zat 9 24 25 (.aload_n 0) [] := zat_of zP_9 rfl
theorem zi_9_25 : zat 9 25 26 (.iload 4) [] := zat_of zP_9 rfl
theorem zi_9_26 : zat 9 26 27 (.iconst 0) [] := zat_of zP_9 rfl
theorem zi_9_27 : zat 9 27 28 (.iconst 0) [] := zat_of zP_9 rfl
theorem zi_9_28 : zat 9 28 29 (.invokevirtual 58) [17, 201, 202, 203] := zat_of zP_9 rfl
theorem zi_9_29 : zat 9 29 30 (.aload_n 0) [] := zat_of zP_9 rfl
theorem zi_9_30 : zat 9 30 31 (.iload 4) [] := zat_of zP_9 rfl
theorem zi_9_31 : zat 9 31 32 (.iconst 1) [] := zat_of zP_9 rfl
theorem zi_9_32 : zat 9 32 33 (.iconst 0) [] := zat_of zP_9 rfl
theorem zi_9_33 : zat 9 33 34 (.invokevirtual 58) [17, 201, 202, 203] := zat_of zP_9 rfl
theorem zi_9_34 : zat 9 34 35 (.aload_n 0) [] := zat_of zP_9 rfl
theorem zi_9_35 : zat 9 35 36 (.iload 4) [] := zat_of zP_9 rfl
theorem zi_9_36 : zat 9 36 37 (.invokevirtual 62) [10, 205, 207, 0] := zat_of zP_9 rfl
theorem zi_9_37 : zat 9 37 38 (.aload_n 0) [] := zat_of zP_9 rfl
theorem zi_9_38 : zat 9 38 39 (.dup) [] := zat_of zP_9 rfl
theorem zi_9_39 : zat 9 39 40 (.getfield 40) [1, 0, 78] := zat_of zP_9 rfl
theorem zi_9_40 : zat 9 40 41 (.iconst 1) [] := zat_of zP_9 rfl
theorem zi_9_41 : zat 9 41 42 (.iadd) [] := zat_of zP_9 rfl
theorem zi_9_42 : zat 9 42 43 (.putfield 40) [1, 0, 78] := zat_of zP_9 rfl
theorem zi_9_43 : zat 9 43 44 (.iload 4) [] := zat_of zP_9 rfl
theorem zi_9_44 : zat 9 44 45 (.ireturn) [] := zat_of zP_9 rfl
theorem zP_10 : zP 10 = zk_10 := rfl
theorem zi_10_0 : zat 10 0 1 (.aload_n 0) [] := zat_of zP_10 rfl
theorem zi_10_1 : zat 10 1 2 (.getfield 21) [1, 4, 82] := zat_of zP_10 rfl
theorem zi_10_2 : zat 10 2 3 (.iload_n 1) [] := zat_of zP_10 rfl
theorem zi_10_3 : zat 10 3 4 (.bipush (-4)) [] := zat_of zP_10 rfl
theorem zi_10_4 : zat 10 4 5 (.invokestatic 54) [110, 198, 199] := zat_of zP_10 rfl
theorem zi_10_5 : zat 10 5 6 (.aload_n 0) [] := zat_of zP_10 rfl
theorem zi_10_6 : zat 10 6 7 (.getfield 24) [1, 5, 83] := zat_of zP_10 rfl
theorem zi_10_7 : zat 10 7 8 (.iload_n 1) [] := zat_of zP_10 rfl
theorem zi_10_8 : zat 10 8 9 (.bipush (-4)) [] := zat_of zP_10 rfl
theorem zi_10_9 : zat 10 9 10 (.invokestatic 54) [110, 198, 199] := zat_of zP_10 rfl
theorem zi_10_10 : zat 10 10 11 (.aload_n 0) [] := zat_of zP_10 rfl
theorem zi_10_11 : zat 10 11 12 (.getfield 27) [1, 6, 84] := zat_of zP_10 rfl
theorem zi_10_12 : zat 10 12 13 (.iload_n 1) [] := zat_of zP_10 rfl
theorem zi_10_13 : zat 10 13 14 (.bipush (-4)) [] := zat_of zP_10 rfl
theorem zi_10_14 : zat 10 14 15 (.invokestatic 54) [110, 198, 199] := zat_of zP_10 rfl
theorem zi_10_15 : zat 10 15 16 (.return_) [] := zat_of zP_10 rfl
theorem zP_11 : zP 11 = zk_11 := rfl
theorem zi_11_0 : zat 11 0 1 (.aload_n 0) [] := zat_of zP_11 rfl
theorem zi_11_1 : zat 11 1 2 (.getfield 40) [1, 0, 78] := zat_of zP_11 rfl
theorem zi_11_2 : zat 11 2 3 (.ireturn) [] := zat_of zP_11 rfl
theorem zP_12 : zP 12 = zk_12 := rfl
theorem zi_12_0 : zat 12 0 1 (.iload_n 1) [] := zat_of zP_12 rfl
theorem zi_12_1 : zat 12 1 2 (.ifCond .lt 15) [8] := zat_of zP_12 rfl
theorem zi_12_2 : zat 12 2 3 (.iload_n 1) [] := zat_of zP_12 rfl
theorem zi_12_3 : zat 12 3 4 (.aload_n 0) [] := zat_of zP_12 rfl
theorem zi_12_4 : zat 12 4 5 (.getfield 40) [1, 0, 78] := zat_of zP_12 rfl
theorem zi_12_5 : zat 12 5 6 (.if_icmp .ge 7) [8] := zat_of zP_12 rfl
theorem zi_12_6 : zat 12 6 7 (.iconst 1) [] := zat_of zP_12 rfl
theorem zi_12_7 : zat 12 7 8 (.goto 4) [9] := zat_of zP_12 rfl
theorem zi_12_8 : zat 12 8 9 (.iconst 0) [] := zat_of zP_12 rfl
theorem zi_12_9 : zat 12 9 10 (.ireturn) [] := zat_of zP_12 rfl
theorem zP_13 : zP 13 = zk_13 := rfl
theorem zi_13_0 : zat 13 0 1 (.iload_n 1) [] := zat_of zP_13 rfl
theorem zi_13_1 : zat 13 1 2 (.ifCond .lt 17) [10] := zat_of zP_13 rfl
theorem zi_13_2 : zat 13 2 3 (.iload_n 1) [] := zat_of zP_13 rfl
theorem zi_13_3 : zat 13 3 4 (.iconst 1) [] := zat_of zP_13 rfl
theorem zi_13_4 : zat 13 4 5 (.aload_n 0) [] := zat_of zP_13 rfl
theorem zi_13_5 : zat 13 5 6 (.getfield 40) [1, 0, 78] := zat_of zP_13 rfl
theorem zi_13_6 : zat 13 6 7 (.ishl) [] := zat_of zP_13 rfl
theorem zi_13_7 : zat 13 7 8 (.if_icmp .ge 7) [10] := zat_of zP_13 rfl
theorem zi_13_8 : zat 13 8 9 (.iconst 1) [] := zat_of zP_13 rfl
theorem zi_13_9 : zat 13 9 10 (.goto 4) [11] := zat_of zP_13 rfl
theorem zi_13_10 : zat 13 10 11 (.iconst 0) [] := zat_of zP_13 rfl
theorem zi_13_11 : zat 13 11 12 (.ireturn) [] := zat_of zP_13 rfl
theorem zP_14 : zP 14 = zk_14 := rfl
theorem zi_14_0 : zat 14 0 1 (.aload_n 0) [] := zat_of zP_14 rfl
theorem zi_14_1 : zat 14 1 2 (.getfield 9) [1, 1, 79] := zat_of zP_14 rfl
theorem zi_14_2 : zat 14 2 3 (.iload_n 1) [] := zat_of zP_14 rfl
theorem zi_14_3 : zat 14 3 4 (.invokestatic 66) [109, 224, 225] := zat_of zP_14 rfl
theorem zi_14_4 : zat 14 4 5 (.ireturn) [] := zat_of zP_14 rfl
theorem zP_15 : zP 15 = zk_15 := rfl
theorem zi_15_0 : zat 15 0 1 (.aload_n 0) [] := zat_of zP_15 rfl
theorem zi_15_1 : zat 15 1 2 (.getfield 15) [1, 2, 80] := zat_of zP_15 rfl
theorem zi_15_2 : zat 15 2 3 (.iconst 2) [] := zat_of zP_15 rfl
theorem zi_15_3 : zat 15 3 4 (.iload_n 1) [] := zat_of zP_15 rfl
theorem zi_15_4 : zat 15 4 5 (.imul) [] := zat_of zP_15 rfl
theorem zi_15_5 : zat 15 5 6 (.iload_n 2) [] := zat_of zP_15 rfl
theorem zi_15_6 : zat 15 6 7 (.iadd) [] := zat_of zP_15 rfl
theorem zi_15_7 : zat 15 7 8 (.invokestatic 66) [109, 224, 225] := zat_of zP_15 rfl
theorem zi_15_8 : zat 15 8 9 (.ireturn) [] := zat_of zP_15 rfl
theorem zP_16 : zP 16 = zk_16 := rfl
theorem zi_16_0 : zat 16 0 1 (.aload_n 0) [] := zat_of zP_16 rfl
theorem zi_16_1 : zat 16 1 2 (.getfield 18) [1, 3, 81] := zat_of zP_16 rfl
theorem zi_16_2 : zat 16 2 3 (.iconst 2) [] := zat_of zP_16 rfl
theorem zi_16_3 : zat 16 3 4 (.iload_n 1) [] := zat_of zP_16 rfl
theorem zi_16_4 : zat 16 4 5 (.imul) [] := zat_of zP_16 rfl
theorem zi_16_5 : zat 16 5 6 (.iload_n 2) [] := zat_of zP_16 rfl
theorem zi_16_6 : zat 16 6 7 (.iadd) [] := zat_of zP_16 rfl
theorem zi_16_7 : zat 16 7 8 (.invokestatic 66) [109, 224, 225] := zat_of zP_16 rfl
theorem zi_16_8 : zat 16 8 9 (.ireturn) [] := zat_of zP_16 rfl
theorem zP_17 : zP 17 = zk_17 := rfl
theorem zi_17_0 : zat 17 0 1 (.aload_n 0) [] := zat_of zP_17 rfl
theorem zi_17_1 : zat 17 1 2 (.getfield 18) [1, 3, 81] := zat_of zP_17 rfl
theorem zi_17_2 : zat 17 2 3 (.iconst 2) [] := zat_of zP_17 rfl
theorem zi_17_3 : zat 17 3 4 (.iload_n 1) [] := zat_of zP_17 rfl
theorem zi_17_4 : zat 17 4 5 (.imul) [] := zat_of zP_17 rfl
theorem zi_17_5 : zat 17 5 6 (.iload_n 2) [] := zat_of zP_17 rfl
theorem zi_17_6 : zat 17 6 7 (.iadd) [] := zat_of zP_17 rfl
theorem zi_17_7 : zat 17 7 8 (.iload_n 3) [] := zat_of zP_17 rfl
theorem zi_17_8 : zat 17 8 9 (.invokestatic 54) [110, 198, 199] := zat_of zP_17 rfl
theorem zi_17_9 : zat 17 9 10 (.return_) [] := zat_of zP_17 rfl
theorem zP_18 : zP 18 = zk_18 := rfl
theorem zi_18_0 : zat 18 0 1 (.aload_n 0) [] := zat_of zP_18 rfl
theorem zi_18_1 : zat 18 1 2 (.getfield 21) [1, 4, 82] := zat_of zP_18 rfl
theorem zi_18_2 : zat 18 2 3 (.iload_n 1) [] := zat_of zP_18 rfl
theorem zi_18_3 : zat 18 3 4 (.invokestatic 66) [109, 224, 225] := zat_of zP_18 rfl
theorem zi_18_4 : zat 18 4 5 (.ireturn) [] := zat_of zP_18 rfl
theorem zP_19 : zP 19 = zk_19 := rfl
theorem zi_19_0 : zat 19 0 1 (.aload_n 0) [] := zat_of zP_19 rfl
theorem zi_19_1 : zat 19 1 2 (.getfield 21) [1, 4, 82] := zat_of zP_19 rfl
theorem zi_19_2 : zat 19 2 3 (.iload_n 1) [] := zat_of zP_19 rfl
theorem zi_19_3 : zat 19 3 4 (.iload_n 2) [] := zat_of zP_19 rfl
theorem zi_19_4 : zat 19 4 5 (.invokestatic 54) [110, 198, 199] := zat_of zP_19 rfl
theorem zi_19_5 : zat 19 5 6 (.return_) [] := zat_of zP_19 rfl
theorem zP_20 : zP 20 = zk_20 := rfl
theorem zi_20_0 : zat 20 0 1 (.iconst 0) [] := zat_of zP_20 rfl
theorem zi_20_1 : zat 20 1 2 (.istore_n 2) [] := zat_of zP_20 rfl
theorem zi_20_2 : zat 20 2 3 (.iconst 0) [] := zat_of zP_20 rfl
theorem zi_20_3 : zat 20 3 4 (.istore_n 3) [] := zat_of zP_20 rfl
theorem zi_20_4 : zat 20 4 5 (.iload_n 3) [] := zat_of zP_20 rfl
theorem zi_20_5 : zat 20 5 6 (.aload_n 0) [] := zat_of zP_20 rfl
theorem zi_20_6 : zat 20 6 7 (.getfield 40) [1, 0, 78] := zat_of zP_20 rfl
theorem zi_20_7 : zat 20 7 8 (.if_icmp .ge 21) [16] := zat_of zP_20 rfl
theorem zi_20_8 : zat 20 8 9 (.aload_n 0) [] := zat_of zP_20 rfl
theorem zi_20_9 : zat 20 9 10 (.iload_n 3) [] := zat_of zP_20 rfl
theorem zi_20_10 : zat 20 10 11 (.invokevirtual 70) [18, 356, 249, 250] := zat_of zP_20 rfl
theorem zi_20_11 : zat 20 11 12 (.iload_n 1) [] := zat_of zP_20 rfl
theorem zi_20_12 : zat 20 12 13 (.if_icmp .ne 6) [14] := zat_of zP_20 rfl
theorem zi_20_13 : zat 20 13 14 (.iinc 2 1) [] := zat_of zP_20 rfl
theorem zi_20_14 : zat 20 14 15 (.iinc 3 1) [] := zat_of zP_20 rfl
theorem zi_20_15 : zat 20 15 16 (.goto (-23)) [4] := zat_of zP_20 rfl
theorem zi_20_16 : zat 20 16 17 (.iload_n 2) [] := zat_of zP_20 rfl
theorem zi_20_17 : zat 20 17 18 (.ireturn) [] := zat_of zP_20 rfl
theorem zP_21 : zP 21 = zk_21 := rfl
theorem zi_21_0 : zat 21 0 1 (.aload_n 0) [] := zat_of zP_21 rfl
theorem zi_21_1 : zat 21 1 2 (.getfield 33) [1, 10, 88] := zat_of zP_21 rfl
theorem zi_21_2 : zat 21 2 3 (.iload_n 1) [] := zat_of zP_21 rfl
theorem zi_21_3 : zat 21 3 4 (.invokestatic 66) [109, 224, 225] := zat_of zP_21 rfl
theorem zi_21_4 : zat 21 4 5 (.ireturn) [] := zat_of zP_21 rfl
theorem zP_22 : zP 22 = zk_22 := rfl
theorem zi_22_0 : zat 22 0 1 (.aload_n 0) [] := zat_of zP_22 rfl
theorem zi_22_1 : zat 22 1 2 (.getfield 24) [1, 5, 83] := zat_of zP_22 rfl
theorem zi_22_2 : zat 22 2 3 (.iload_n 1) [] := zat_of zP_22 rfl
theorem zi_22_3 : zat 22 3 4 (.invokestatic 66) [109, 224, 225] := zat_of zP_22 rfl
theorem zi_22_4 : zat 22 4 5 (.ireturn) [] := zat_of zP_22 rfl
theorem zP_23 : zP 23 = zk_23 := rfl
theorem zi_23_0 : zat 23 0 1 (.aload_n 0) [] := zat_of zP_23 rfl
theorem zi_23_1 : zat 23 1 2 (.iload_n 1) [] := zat_of zP_23 rfl
theorem zi_23_2 : zat 23 2 3 (.invokevirtual 74) [22, 260, 241, 242] := zat_of zP_23 rfl
theorem zi_23_3 : zat 23 3 4 (.ifCond .lt 7) [6] := zat_of zP_23 rfl
theorem zi_23_4 : zat 23 4 5 (.iconst 1) [] := zat_of zP_23 rfl
theorem zi_23_5 : zat 23 5 6 (.goto 4) [7] := zat_of zP_23 rfl
theorem zi_23_6 : zat 23 6 7 (.iconst 0) [] := zat_of zP_23 rfl
theorem zi_23_7 : zat 23 7 8 (.ireturn) [] := zat_of zP_23 rfl
theorem zP_24 : zP 24 = zk_24 := rfl
theorem zi_24_0 : zat 24 0 1 (.aload_n 0) [] := zat_of zP_24 rfl
theorem zi_24_1 : zat 24 1 2 (.getfield 27) [1, 6, 84] := zat_of zP_24 rfl
theorem zi_24_2 : zat 24 2 3 (.iload_n 1) [] := zat_of zP_24 rfl
theorem zi_24_3 : zat 24 3 4 (.invokestatic 66) [109, 224, 225] := zat_of zP_24 rfl
theorem zi_24_4 : zat 24 4 5 (.ireturn) [] := zat_of zP_24 rfl
theorem zP_25 : zP 25 = zk_25 := rfl
theorem zi_25_0 : zat 25 0 1 (.iconst 1) [] := zat_of zP_25 rfl
theorem zi_25_1 : zat 25 1 2 (.aload_n 0) [] := zat_of zP_25 rfl
theorem zi_25_2 : zat 25 2 3 (.iload_n 1) [] := zat_of zP_25 rfl
theorem zi_25_3 : zat 25 3 4 (.invokevirtual 77) [24, 426, 245, 246] := zat_of zP_25 rfl
theorem zi_25_4 : zat 25 4 5 (.isub) [] := zat_of zP_25 rfl
theorem zi_25_5 : zat 25 5 6 (.ireturn) [] := zat_of zP_25 rfl
theorem zP_26 : zP 26 = zk_26 := rfl
theorem zi_26_0 : zat 26 0 1 (.aload_n 0) [] := zat_of zP_26 rfl
theorem zi_26_1 : zat 26 1 2 (.getfield 47) [1, 7, 85] := zat_of zP_26 rfl
theorem zi_26_2 : zat 26 2 3 (.ireturn) [] := zat_of zP_26 rfl
theorem zP_27 : zP 27 = zk_27 := rfl
theorem zi_27_0 : zat 27 0 1 (.aload_n 0) [] := zat_of zP_27 rfl
theorem zi_27_1 : zat 27 1 2 (.getfield 30) [1, 8, 86] := zat_of zP_27 rfl
theorem zi_27_2 : zat 27 2 3 (.iload_n 1) [] := zat_of zP_27 rfl
theorem zi_27_3 : zat 27 3 4 (.invokestatic 66) [109, 224, 225] := zat_of zP_27 rfl
theorem zi_27_4 : zat 27 4 5 (.ireturn) [] := zat_of zP_27 rfl
theorem zP_28 : zP 28 = zk_28 := rfl
theorem zi_28_0 : zat 28 0 1 (.aload_n 0) [] := zat_of zP_28 rfl
theorem zi_28_1 : zat 28 1 2 (.getfield 50) [1, 9, 87] := zat_of zP_28 rfl
theorem zi_28_2 : zat 28 2 3 (.ireturn) [] := zat_of zP_28 rfl
theorem zP_29 : zP 29 = zk_29 := rfl
theorem zi_29_0 : zat 29 0 1 (.aload_n 0) [] := zat_of zP_29 rfl
theorem zi_29_1 : zat 29 1 2 (.iload_n 1) [] := zat_of zP_29 rfl
theorem zi_29_2 : zat 29 2 3 (.putfield 50) [1, 9, 87] := zat_of zP_29 rfl
theorem zi_29_3 : zat 29 3 4 (.return_) [] := zat_of zP_29 rfl
theorem zP_30 : zP 30 = zk_30 := rfl
theorem zi_30_0 : zat 30 0 1 (.aload_n 0) [] := zat_of zP_30 rfl
theorem zi_30_1 : zat 30 1 2 (.getfield 36) [1, 11, 89] := zat_of zP_30 rfl
theorem zi_30_2 : zat 30 2 3 (.ireturn) [] := zat_of zP_30 rfl
theorem zP_31 : zP 31 = zk_31 := rfl
theorem zi_31_0 : zat 31 0 1 (.aload_n 0) [] := zat_of zP_31 rfl
theorem zi_31_1 : zat 31 1 2 (.iload_n 1) [] := zat_of zP_31 rfl
theorem zi_31_2 : zat 31 2 3 (.putfield 36) [1, 11, 89] := zat_of zP_31 rfl
theorem zi_31_3 : zat 31 3 4 (.return_) [] := zat_of zP_31 rfl
theorem zP_32 : zP 32 = zk_32 := rfl
theorem zi_32_0 : zat 32 0 1 (.aload_n 0) [] := zat_of zP_32 rfl
theorem zi_32_1 : zat 32 1 2 (.getfield 30) [1, 8, 86] := zat_of zP_32 rfl
theorem zi_32_2 : zat 32 2 3 (.aload_n 0) [] := zat_of zP_32 rfl
theorem zi_32_3 : zat 32 3 4 (.getfield 47) [1, 7, 85] := zat_of zP_32 rfl
theorem zi_32_4 : zat 32 4 5 (.iconst 1) [] := zat_of zP_32 rfl
theorem zi_32_5 : zat 32 5 6 (.isub) [] := zat_of zP_32 rfl
theorem zi_32_6 : zat 32 6 7 (.invokestatic 66) [109, 224, 225] := zat_of zP_32 rfl
theorem zi_32_7 : zat 32 7 8 (.istore_n 1) [] := zat_of zP_32 rfl
theorem zi_32_8 : zat 32 8 9 (.aload_n 0) [] := zat_of zP_32 rfl
theorem zi_32_9 : zat 32 9 10 (.getfield 15) [1, 2, 80] := zat_of zP_32 rfl
theorem zi_32_10 : zat 32 10 11 (.iconst 2) [] := zat_of zP_32 rfl
theorem zi_32_11 : zat 32 11 12 (.iload_n 1) [] := zat_of zP_32 rfl
theorem zi_32_12 : zat 32 12 13 (.imul) [] := zat_of zP_32 rfl
theorem zi_32_13 : zat 32 13 14 (.iconst 1) [] := zat_of zP_32 rfl
theorem zi_32_14 : zat 32 14 15 (.iadd) [] := zat_of zP_32 rfl
theorem zi_32_15 : zat 32 15 16 (.aload_n 0) [] := zat_of zP_32 rfl
theorem zi_32_16 : zat 32 16 17 (.getfield 27) [1, 6, 84] := zat_of zP_32 rfl
theorem zi_32_17 : zat 32 17 18 (.iload_n 1) [] := zat_of zP_32 rfl
theorem zi_32_18 : zat 32 18 19 (.invokestatic 66) [109, 224, 225] := zat_of zP_32 rfl
theorem zi_32_19 : zat 32 19 20 (.isub) [] := zat_of zP_32 rfl
theorem zi_32_20 : zat 32 20 21 (.invokestatic 66) [109, 224, 225] := zat_of zP_32 rfl
theorem zi_32_21 : zat 32 21 22 (.ireturn) [] := zat_of zP_32 rfl
theorem zP_33 : zP 33 = zk_33 := rfl
theorem zi_33_0 : zat 33 0 1 (.iload_n 0) [] := zat_of zP_33 rfl
theorem zi_33_1 : zat 33 1 2 (.iload_n 1) [] := zat_of zP_33 rfl
theorem zi_33_2 : zat 33 2 3 (.isub) [] := zat_of zP_33 rfl
theorem zi_33_3 : zat 33 3 4 (.invokestatic 80) [177, 390, 391] := zat_of zP_33 rfl
theorem zi_33_4 : zat 33 4 5 (.iconst 1) [] := zat_of zP_33 rfl
theorem zi_33_5 : zat 33 5 6 (.if_icmp .gt 7) [8] := zat_of zP_33 rfl
theorem zi_33_6 : zat 33 6 7 (.iconst 1) [] := zat_of zP_33 rfl
theorem zi_33_7 : zat 33 7 8 (.goto 4) [9] := zat_of zP_33 rfl
theorem zi_33_8 : zat 33 8 9 (.iconst 0) [] := zat_of zP_33 rfl
theorem zi_33_9 : zat 33 9 10 (.ireturn) [] := zat_of zP_33 rfl
theorem zP_34 : zP 34 = zk_34 := rfl
theorem zi_34_0 : zat 34 0 1 (.aload_n 0) [] := zat_of zP_34 rfl
theorem zi_34_1 : zat 34 1 2 (.getfield 47) [1, 7, 85] := zat_of zP_34 rfl
theorem zi_34_2 : zat 34 2 3 (.ifCond .eq 19) [11] := zat_of zP_34 rfl
theorem zi_34_3 : zat 34 3 4 (.aload_n 0) [] := zat_of zP_34 rfl
theorem zi_34_4 : zat 34 4 5 (.iload_n 1) [] := zat_of zP_34 rfl
theorem zi_34_5 : zat 34 5 6 (.iload_n 2) [] := zat_of zP_34 rfl
theorem zi_34_6 : zat 34 6 7 (.invokevirtual 85) [15, 382, 221, 222] := zat_of zP_34 rfl
theorem zi_34_7 : zat 34 7 8 (.aload_n 0) [] := zat_of zP_34 rfl
theorem zi_34_8 : zat 34 8 9 (.invokevirtual 89) [32, 383, 385, 7] := zat_of zP_34 rfl
theorem zi_34_9 : zat 34 9 10 (.invokestatic 93) [33, 387, 388] := zat_of zP_34 rfl
theorem zi_34_10 : zat 34 10 11 (.ifCond .eq 7) [13] := zat_of zP_34 rfl
theorem zi_34_11 : zat 34 11 12 (.iconst 1) [] := zat_of zP_34 rfl
theorem zi_34_12 : zat 34 12 13 (.goto 4) [14] := zat_of zP_34 rfl
theorem zi_34_13 : zat 34 13 14 (.iconst 0) [] := zat_of zP_34 rfl
theorem zi_34_14 : zat 34 14 15 (.ireturn) [] := zat_of zP_34 rfl
theorem zP_35 : zP 35 = zk_35 := rfl
theorem zi_35_0 : zat 35 0 1 (.iload_n 2) [] := zat_of zP_35 rfl
theorem zi_35_1 : zat 35 1 2 (.iconst 2) [] := zat_of zP_35 rfl
theorem zi_35_2 : zat 35 2 3 (.idiv) [] := zat_of zP_35 rfl
theorem zi_35_3 : zat 35 3 4 (.istore_n 3) [] := zat_of zP_35 rfl
theorem zi_35_4 : zat 35 4 5 (.aload_n 0) [] := zat_of zP_35 rfl
theorem zi_35_5 : zat 35 5 6 (.iload_n 3) [] := zat_of zP_35 rfl
theorem zi_35_6 : zat 35 6 7 (.invokevirtual 97) [12, 518, 214, 215] := zat_of zP_35 rfl
theorem zi_35_7 : zat 35 7 8 (.ifCond .eq 27) [22] := zat_of zP_35 rfl
theorem zi_35_8 : zat 35 8 9 (.aload_n 0) [] := zat_of zP_35 rfl
theorem zi_35_9 : zat 35 9 10 (.iload_n 3) [] := zat_of zP_35 rfl
theorem zi_35_10 : zat 35 10 11 (.invokevirtual 70) [18, 356, 249, 250] := zat_of zP_35 rfl
theorem zi_35_11 : zat 35 11 12 (.iload_n 1) [] := zat_of zP_35 rfl
theorem zi_35_12 : zat 35 12 13 (.if_icmp .ne 18) [22] := zat_of zP_35 rfl
theorem zi_35_13 : zat 35 13 14 (.aload_n 0) [] := zat_of zP_35 rfl
theorem zi_35_14 : zat 35 14 15 (.iload_n 3) [] := zat_of zP_35 rfl
theorem zi_35_15 : zat 35 15 16 (.iload_n 2) [] := zat_of zP_35 rfl
theorem zi_35_16 : zat 35 16 17 (.iconst 2) [] := zat_of zP_35 rfl
theorem zi_35_17 : zat 35 17 18 (.irem) [] := zat_of zP_35 rfl
theorem zi_35_18 : zat 35 18 19 (.invokevirtual 101) [34, 519, 379, 380] := zat_of zP_35 rfl
theorem zi_35_19 : zat 35 19 20 (.ifCond .eq 7) [22] := zat_of zP_35 rfl
theorem zi_35_20 : zat 35 20 21 (.iconst 1) [] := zat_of zP_35 rfl
theorem zi_35_21 : zat 35 21 22 (.goto 4) [23] := zat_of zP_35 rfl
theorem zi_35_22 : zat 35 22 23 (.iconst 0) [] := zat_of zP_35 rfl
theorem zi_35_23 : zat 35 23 24 (.ireturn) [] := zat_of zP_35 rfl
theorem zP_36 : zP 36 = zk_36 := rfl
theorem zi_36_0 : zat 36 0 1 (.aload_n 0) [] := zat_of zP_36 rfl
theorem zi_36_1 : zat 36 1 2 (.getfield 47) [1, 7, 85] := zat_of zP_36 rfl
theorem zi_36_2 : zat 36 2 3 (.iconst 3) [] := zat_of zP_36 rfl
theorem zi_36_3 : zat 36 3 4 (.if_icmp .ge 5) [6] := zat_of zP_36 rfl
theorem zi_36_4 : zat 36 4 5 (.iconst 0) [] := zat_of zP_36 rfl
theorem zi_36_5 : zat 36 5 6 (.ireturn) [] := zat_of zP_36 rfl
theorem zi_36_6 : zat 36 6 7 (.aload_n 0) [] := zat_of zP_36 rfl
theorem zi_36_7 : zat 36 7 8 (.iconst 0) [] := zat_of zP_36 rfl
theorem zi_36_8 : zat 36 8 9 (.invokevirtual 104) [27, 365, 366, 367] := zat_of zP_36 rfl
theorem zi_36_9 : zat 36 9 10 (.istore_n 1) [] := zat_of zP_36 rfl
theorem zi_36_10 : zat 36 10 11 (.aload_n 0) [] := zat_of zP_36 rfl
theorem zi_36_11 : zat 36 11 12 (.iload_n 1) [] := zat_of zP_36 rfl
theorem zi_36_12 : zat 36 12 13 (.aload_n 0) [] := zat_of zP_36 rfl
theorem zi_36_13 : zat 36 13 14 (.iload_n 1) [] := zat_of zP_36 rfl
theorem zi_36_14 : zat 36 14 15 (.invokevirtual 77) [24, 426, 245, 246] := zat_of zP_36 rfl
theorem zi_36_15 : zat 36 15 16 (.invokevirtual 85) [15, 382, 221, 222] := zat_of zP_36 rfl
theorem zi_36_16 : zat 36 16 17 (.aload_n 0) [] := zat_of zP_36 rfl
theorem zi_36_17 : zat 36 17 18 (.invokevirtual 89) [32, 383, 385, 7] := zat_of zP_36 rfl
theorem zi_36_18 : zat 36 18 19 (.invokestatic 93) [33, 387, 388] := zat_of zP_36 rfl
theorem zi_36_19 : zat 36 19 20 (.ireturn) [] := zat_of zP_36 rfl
theorem zP_37 : zP 37 = zk_37 := rfl
theorem zi_37_0 : zat 37 0 1 (.aload_n 0) [] := zat_of zP_37 rfl
theorem zi_37_1 : zat 37 1 2 (.invokevirtual 107) [43, 402, 403, 404] := zat_of zP_37 rfl
theorem zi_37_2 : zat 37 2 3 (.istore_n 3) [] := zat_of zP_37 rfl
theorem zi_37_3 : zat 37 3 4 (.aload_n 0) [] := zat_of zP_37 rfl
theorem zi_37_4 : zat 37 4 5 (.iload_n 3) [] := zat_of zP_37 rfl
theorem zi_37_5 : zat 37 5 6 (.invokevirtual 110) [44, 414, 415, 416] := zat_of zP_37 rfl
theorem zi_37_6 : zat 37 6 7 (.ifCond .ne 8) [10] := zat_of zP_37 rfl
theorem zi_37_7 : zat 37 7 8 (.aload_n 0) [] := zat_of zP_37 rfl
theorem zi_37_8 : zat 37 8 9 (.iload_n 3) [] := zat_of zP_37 rfl
theorem zi_37_9 : zat 37 9 10 (.invokevirtual 113) [46, 422, 423, 424] := zat_of zP_37 rfl
theorem zi_37_10 : zat 37 10 11 (.aload_n 0) [] := zat_of zP_37 rfl
theorem zi_37_11 : zat 37 11 12 (.iload_n 1) [] := zat_of zP_37 rfl
theorem zi_37_12 : zat 37 12 13 (.invokevirtual 70) [18, 356, 249, 250] := zat_of zP_37 rfl
theorem zi_37_13 : zat 37 13 14 (.istore 4) [] := zat_of zP_37 rfl
theorem zi_37_14 : zat 37 14 15 (.aload_n 0) [] := zat_of zP_37 rfl
theorem zi_37_15 : zat 37 15 16 (.iload_n 1) [] := zat_of zP_37 rfl
theorem zi_37_16 : zat 37 16 17 (.invokevirtual 62) [10, 205, 207, 0] := zat_of zP_37 rfl
theorem zi_37_17 : zat 37 17 18 (.aload_n 0) [] := zat_of zP_37 rfl
theorem zi_37_18 : zat 37 18 19 (.getfield 24) [1, 5, 83] := zat_of zP_37 rfl
theorem zi_37_19 : zat 37 19 20 (.iload_n 1) [] := zat_of zP_37 rfl
theorem zi_37_20 : zat 37 20 21 (.aload_n 0) [] := zat_of zP_37 rfl
theorem zi_37_21 : zat 37 21 22 (.getfield 47) [1, 7, 85] := zat_of zP_37 rfl
theorem zi_37_22 : zat 37 22 23 (.invokestatic 54) [110, 198, 199] := zat_of zP_37 rfl
theorem zi_37_23 : zat 37 23 24 (.aload_n 0) [] := zat_of zP_37 rfl
theorem zi_37_24 : zat 37 24 25 (.getfield 27) [1, 6, 84] := zat_of zP_37 rfl
theorem zi_37_25 : zat 37 25 26 (.iload_n 1) [] := zat_of zP_37 rfl
theorem zi_37_26 : zat 37 26 27 (.iload_n 2) [] := zat_of zP_37 rfl
theorem zi_37_27 : zat 37 27 28 (.invokestatic 54) [110, 198, 199] := zat_of zP_37 rfl
theorem zi_37_28 : zat 37 28 29 (.aload_n 0) [] := zat_of zP_37 rfl
theorem zi_37_29 : zat 37 29 30 (.getfield 30) [1, 8, 86] := zat_of zP_37 rfl
theorem zi_37_30 : zat 37 30 31 (.aload_n 0) [] := zat_of zP_37 rfl
theorem zi_37_31 : zat 37 31 32 (.getfield 47) [1, 7, 85] := zat_of zP_37 rfl
theorem zi_37_32 : zat 37 32 33 (.iload_n 1) [] := zat_of zP_37 rfl
theorem zi_37_33 : zat 37 33 34 (.invokestatic 54) [110, 198, 199] := zat_of zP_37 rfl
theorem zi_37_34 : zat 37 34 35 (.aload_n 0) [] := zat_of zP_37 rfl
theorem zi_37_35 : zat 37 35 36 (.dup) [] := zat_of zP_37 rfl
theorem zi_37_36 : zat 37 36 37 (.getfield 47) [1, 7, 85] := zat_of zP_37 rfl
theorem zi_37_37 : zat 37 37 38 (.iconst 1) [] := zat_of zP_37 rfl
theorem zi_37_38 : zat 37 38 39 (.iadd) [] := zat_of zP_37 rfl
theorem zi_37_39 : zat 37 39 40 (.putfield 47) [1, 7, 85] := zat_of zP_37 rfl
theorem zi_37_40 : zat 37 40 41 (.aload_n 0) [] := zat_of zP_37 rfl
theorem zi_37_41 : zat 37 41 42 (.invokevirtual 116) [38, 441, 443, 12] := zat_of zP_37 rfl
theorem zi_37_42 : zat 37 42 43 (.istore 5) [] := zat_of zP_37 rfl
theorem zi_37_43 : zat 37 43 44 (.iload 4) [] := zat_of zP_37 rfl
theorem zi_37_44 : zat 37 44 45 (.invokestatic 119) [96, 447, 448] := zat_of zP_37 rfl
theorem zi_37_45 : zat 37 45 46 (.ifCond .eq 21) [55] := zat_of zP_37 rfl
theorem zi_37_46 : zat 37 46 47 (.aload_n 0) [] := zat_of zP_37 rfl
theorem zi_37_47 : zat 37 47 48 (.getfield 33) [1, 10, 88] := zat_of zP_37 rfl
theorem zi_37_48 : zat 37 48 49 (.iload 4) [] := zat_of zP_37 rfl
theorem zi_37_49 : zat 37 49 50 (.aload_n 0) [] := zat_of zP_37 rfl
theorem zi_37_50 : zat 37 50 51 (.iload 4) [] := zat_of zP_37 rfl
theorem zi_37_51 : zat 37 51 52 (.invokevirtual 122) [21, 450, 358, 359] := zat_of zP_37 rfl
theorem zi_37_52 : zat 37 52 53 (.iload 5) [] := zat_of zP_37 rfl
theorem zi_37_53 : zat 37 53 54 (.iadd) [] := zat_of zP_37 rfl
theorem zi_37_54 : zat 37 54 55 (.invokestatic 54) [110, 198, 199] := zat_of zP_37 rfl
theorem zi_37_55 : zat 37 55 56 (.iload 5) [] := zat_of zP_37 rfl
theorem zi_37_56 : zat 37 56 57 (.ireturn) [] := zat_of zP_37 rfl
theorem zP_38 : zP 38 = zk_38 := rfl
theorem zi_38_0 : zat 38 0 1 (.aload_n 0) [] := zat_of zP_38 rfl
theorem zi_38_1 : zat 38 1 2 (.getfield 47) [1, 7, 85] := zat_of zP_38 rfl
theorem zi_38_2 : zat 38 2 3 (.iconst 2) [] := zat_of zP_38 rfl
theorem zi_38_3 : zat 38 3 4 (.if_icmp .lt 16) [11] := zat_of zP_38 rfl
theorem zi_38_4 : zat 38 4 5 (.aload_n 0) [] := zat_of zP_38 rfl
theorem zi_38_5 : zat 38 5 6 (.invokevirtual 125) [39, 445, 362, 363] := zat_of zP_38 rfl
theorem zi_38_6 : zat 38 6 7 (.iconst 2) [] := zat_of zP_38 rfl
theorem zi_38_7 : zat 38 7 8 (.aload_n 0) [] := zat_of zP_38 rfl
theorem zi_38_8 : zat 38 8 9 (.getfield 47) [1, 7, 85] := zat_of zP_38 rfl
theorem zi_38_9 : zat 38 9 10 (.imul) [] := zat_of zP_38 rfl
theorem zi_38_10 : zat 38 10 11 (.if_icmp .ge 5) [13] := zat_of zP_38 rfl
theorem zi_38_11 : zat 38 11 12 (.iconst 0) [] := zat_of zP_38 rfl
theorem zi_38_12 : zat 38 12 13 (.ireturn) [] := zat_of zP_38 rfl
theorem zi_38_13 : zat 38 13 14 (.aload_n 0) [] := zat_of zP_38 rfl
theorem zi_38_14 : zat 38 14 15 (.getfield 47) [1, 7, 85] := zat_of zP_38 rfl
theorem zi_38_15 : zat 38 15 16 (.istore_n 1) [] := zat_of zP_38 rfl
theorem zi_38_16 : zat 38 16 17 (.iconst 0) [] := zat_of zP_38 rfl
theorem zi_38_17 : zat 38 17 18 (.istore_n 2) [] := zat_of zP_38 rfl
theorem zi_38_18 : zat 38 18 19 (.iload_n 2) [] := zat_of zP_38 rfl
theorem zi_38_19 : zat 38 19 20 (.aload_n 0) [] := zat_of zP_38 rfl
theorem zi_38_20 : zat 38 20 21 (.getfield 47) [1, 7, 85] := zat_of zP_38 rfl
theorem zi_38_21 : zat 38 21 22 (.if_icmp .ge 25) [32] := zat_of zP_38 rfl
theorem zi_38_22 : zat 38 22 23 (.aload_n 0) [] := zat_of zP_38 rfl
theorem zi_38_23 : zat 38 23 24 (.aload_n 0) [] := zat_of zP_38 rfl
theorem zi_38_24 : zat 38 24 25 (.iload_n 2) [] := zat_of zP_38 rfl
theorem zi_38_25 : zat 38 25 26 (.invokevirtual 104) [27, 365, 366, 367] := zat_of zP_38 rfl
theorem zi_38_26 : zat 38 26 27 (.invokevirtual 128) [14, 446, 237, 238] := zat_of zP_38 rfl
theorem zi_38_27 : zat 38 27 28 (.iconst 3) [] := zat_of zP_38 rfl
theorem zi_38_28 : zat 38 28 29 (.if_icmp .ne 6) [30] := zat_of zP_38 rfl
theorem zi_38_29 : zat 38 29 30 (.iinc 1 1) [] := zat_of zP_38 rfl
theorem zi_38_30 : zat 38 30 31 (.iinc 2 1) [] := zat_of zP_38 rfl
theorem zi_38_31 : zat 38 31 32 (.goto (-27)) [18] := zat_of zP_38 rfl
theorem zi_38_32 : zat 38 32 33 (.iload_n 1) [] := zat_of zP_38 rfl
theorem zi_38_33 : zat 38 33 34 (.ireturn) [] := zat_of zP_38 rfl
theorem zP_39 : zP 39 = zk_39 := rfl
theorem zi_39_0 : zat 39 0 1 (.iconst 0) [] := zat_of zP_39 rfl
theorem zi_39_1 : zat 39 1 2 (.istore_n 1) [] := zat_of zP_39 rfl
theorem zi_39_2 : zat 39 2 3 (.iconst 0) [] := zat_of zP_39 rfl
theorem zi_39_3 : zat 39 3 4 (.istore_n 2) [] := zat_of zP_39 rfl
theorem zi_39_4 : zat 39 4 5 (.iload_n 2) [] := zat_of zP_39 rfl
theorem zi_39_5 : zat 39 5 6 (.aload_n 0) [] := zat_of zP_39 rfl
theorem zi_39_6 : zat 39 6 7 (.getfield 47) [1, 7, 85] := zat_of zP_39 rfl
theorem zi_39_7 : zat 39 7 8 (.if_icmp .ge 47) [34] := zat_of zP_39 rfl
theorem zi_39_8 : zat 39 8 9 (.aload_n 0) [] := zat_of zP_39 rfl
theorem zi_39_9 : zat 39 9 10 (.iload_n 2) [] := zat_of zP_39 rfl
theorem zi_39_10 : zat 39 10 11 (.invokevirtual 104) [27, 365, 366, 367] := zat_of zP_39 rfl
theorem zi_39_11 : zat 39 11 12 (.istore_n 3) [] := zat_of zP_39 rfl
theorem zi_39_12 : zat 39 12 13 (.iload_n 1) [] := zat_of zP_39 rfl
theorem zi_39_13 : zat 39 13 14 (.aload_n 0) [] := zat_of zP_39 rfl
theorem zi_39_14 : zat 39 14 15 (.iload_n 3) [] := zat_of zP_39 rfl
theorem zi_39_15 : zat 39 15 16 (.iconst 0) [] := zat_of zP_39 rfl
theorem zi_39_16 : zat 39 16 17 (.invokevirtual 131) [16, 369, 228, 229] := zat_of zP_39 rfl
theorem zi_39_17 : zat 39 17 18 (.ifCond .ne 7) [20] := zat_of zP_39 rfl
theorem zi_39_18 : zat 39 18 19 (.iconst 1) [] := zat_of zP_39 rfl
theorem zi_39_19 : zat 39 19 20 (.goto 4) [21] := zat_of zP_39 rfl
theorem zi_39_20 : zat 39 20 21 (.iconst 0) [] := zat_of zP_39 rfl
theorem zi_39_21 : zat 39 21 22 (.aload_n 0) [] := zat_of zP_39 rfl
theorem zi_39_22 : zat 39 22 23 (.iload_n 3) [] := zat_of zP_39 rfl
theorem zi_39_23 : zat 39 23 24 (.iconst 1) [] := zat_of zP_39 rfl
theorem zi_39_24 : zat 39 24 25 (.invokevirtual 131) [16, 369, 228, 229] := zat_of zP_39 rfl
theorem zi_39_25 : zat 39 25 26 (.ifCond .ne 7) [28] := zat_of zP_39 rfl
theorem zi_39_26 : zat 39 26 27 (.iconst 1) [] := zat_of zP_39 rfl
theorem zi_39_27 : zat 39 27 28 (.goto 4) [29] := zat_of zP_39 rfl
theorem zi_39_28 : zat 39 28 29 (.iconst 0) [] := zat_of zP_39 rfl
theorem zi_39_29 : zat 39 29 30 (.iadd) [] := zat_of zP_39 rfl
theorem zi_39_30 : zat 39 30 31 (.iadd) [] := zat_of zP_39 rfl
theorem zi_39_31 : zat 39 31 32 (.istore_n 1) [] := zat_of zP_39 rfl
theorem zi_39_32 : zat 39 32 33 (.iinc 2 1) [] := zat_of zP_39 rfl
theorem zi_39_33 : zat 39 33 34 (.goto (-49)) [4] := zat_of zP_39 rfl
theorem zi_39_34 : zat 39 34 35 (.iload_n 1) [] := zat_of zP_39 rfl
theorem zi_39_35 : zat 39 35 36 (.ireturn) [] := zat_of zP_39 rfl
theorem zP_40 : zP 40 = zk_40 := rfl
theorem zi_40_0 : zat 40 0 1 (.iconst 0) [] := zat_of zP_40 rfl
theorem zi_40_1 : zat 40 1 2 (.istore_n 2) [] := zat_of zP_40 rfl
theorem zi_40_2 : zat 40 2 3 (.iload_n 2) [] := zat_of zP_40 rfl
theorem zi_40_3 : zat 40 3 4 (.iload_n 1) [] := zat_of zP_40 rfl
theorem zi_40_4 : zat 40 4 5 (.if_icmp .ge 38) [22] := zat_of zP_40 rfl
theorem zi_40_5 : zat 40 5 6 (.aload_n 0) [] := zat_of zP_40 rfl
theorem zi_40_6 : zat 40 6 7 (.getfield 47) [1, 7, 85] := zat_of zP_40 rfl
theorem zi_40_7 : zat 40 7 8 (.ifCond .le 31) [22] := zat_of zP_40 rfl
theorem zi_40_8 : zat 40 8 9 (.aload_n 0) [] := zat_of zP_40 rfl
theorem zi_40_9 : zat 40 9 10 (.dup) [] := zat_of zP_40 rfl
theorem zi_40_10 : zat 40 10 11 (.getfield 47) [1, 7, 85] := zat_of zP_40 rfl
theorem zi_40_11 : zat 40 11 12 (.iconst 1) [] := zat_of zP_40 rfl
theorem zi_40_12 : zat 40 12 13 (.isub) [] := zat_of zP_40 rfl
theorem zi_40_13 : zat 40 13 14 (.putfield 47) [1, 7, 85] := zat_of zP_40 rfl
theorem zi_40_14 : zat 40 14 15 (.aload_n 0) [] := zat_of zP_40 rfl
theorem zi_40_15 : zat 40 15 16 (.aload_n 0) [] := zat_of zP_40 rfl
theorem zi_40_16 : zat 40 16 17 (.aload_n 0) [] := zat_of zP_40 rfl
theorem zi_40_17 : zat 40 17 18 (.getfield 47) [1, 7, 85] := zat_of zP_40 rfl
theorem zi_40_18 : zat 40 18 19 (.invokevirtual 104) [27, 365, 366, 367] := zat_of zP_40 rfl
theorem zi_40_19 : zat 40 19 20 (.invokevirtual 62) [10, 205, 207, 0] := zat_of zP_40 rfl
theorem zi_40_20 : zat 40 20 21 (.iinc 2 1) [] := zat_of zP_40 rfl
theorem zi_40_21 : zat 40 21 22 (.goto (-37)) [2] := zat_of zP_40 rfl
theorem zi_40_22 : zat 40 22 23 (.aload_n 0) [] := zat_of zP_40 rfl
theorem zi_40_23 : zat 40 23 24 (.iconst 0) [] := zat_of zP_40 rfl
theorem zi_40_24 : zat 40 24 25 (.putfield 50) [1, 9, 87] := zat_of zP_40 rfl
theorem zi_40_25 : zat 40 25 26 (.return_) [] := zat_of zP_40 rfl
theorem zP_41 : zP 41 = zk_41 := rfl
theorem zi_41_0 : zat 41 0 1 (.aload_n 0) [] := zat_of zP_41 rfl
theorem zi_41_1 : zat 41 1 2 (.getfield 9) [1, 1, 79] := zat_of zP_41 rfl
theorem zi_41_2 : zat 41 2 3 (.iload_n 1) [] := zat_of zP_41 rfl
theorem zi_41_3 : zat 41 3 4 (.invokestatic 66) [109, 224, 225] := zat_of zP_41 rfl
theorem zi_41_4 : zat 41 4 5 (.iconst 2) [] := zat_of zP_41 rfl
theorem zi_41_5 : zat 41 5 6 (.if_icmp .ne 7) [8] := zat_of zP_41 rfl
theorem zi_41_6 : zat 41 6 7 (.iload_n 2) [] := zat_of zP_41 rfl
theorem zi_41_7 : zat 41 7 8 (.goto 5) [10] := zat_of zP_41 rfl
theorem zi_41_8 : zat 41 8 9 (.iload_n 2) [] := zat_of zP_41 rfl
theorem zi_41_9 : zat 41 9 10 (.ineg) [] := zat_of zP_41 rfl
theorem zi_41_10 : zat 41 10 11 (.ireturn) [] := zat_of zP_41 rfl
theorem zP_42 : zP 42 = zk_42 := rfl
theorem zi_42_0 : zat 42 0 1 (.iconst (-1)) [] := zat_of zP_42 rfl
theorem zi_42_1 : zat 42 1 2 (.istore_n 2) [] := zat_of zP_42 rfl
theorem zi_42_2 : zat 42 2 3 (.iconst 0) [] := zat_of zP_42 rfl
theorem zi_42_3 : zat 42 3 4 (.istore_n 3) [] := zat_of zP_42 rfl
theorem zi_42_4 : zat 42 4 5 (.iload_n 3) [] := zat_of zP_42 rfl
theorem zi_42_5 : zat 42 5 6 (.iload_n 1) [] := zat_of zP_42 rfl
theorem zi_42_6 : zat 42 6 7 (.if_icmp .gt 29) [21] := zat_of zP_42 rfl
theorem zi_42_7 : zat 42 7 8 (.iload_n 3) [] := zat_of zP_42 rfl
theorem zi_42_8 : zat 42 8 9 (.aload_n 0) [] := zat_of zP_42 rfl
theorem zi_42_9 : zat 42 9 10 (.getfield 47) [1, 7, 85] := zat_of zP_42 rfl
theorem zi_42_10 : zat 42 10 11 (.if_icmp .ge 21) [21] := zat_of zP_42 rfl
theorem zi_42_11 : zat 42 11 12 (.aload_n 0) [] := zat_of zP_42 rfl
theorem zi_42_12 : zat 42 12 13 (.aload_n 0) [] := zat_of zP_42 rfl
theorem zi_42_13 : zat 42 13 14 (.iload_n 3) [] := zat_of zP_42 rfl
theorem zi_42_14 : zat 42 14 15 (.invokevirtual 104) [27, 365, 366, 367] := zat_of zP_42 rfl
theorem zi_42_15 : zat 42 15 16 (.iload_n 2) [] := zat_of zP_42 rfl
theorem zi_42_16 : zat 42 16 17 (.ineg) [] := zat_of zP_42 rfl
theorem zi_42_17 : zat 42 17 18 (.invokevirtual 134) [41, 410, 412, 9] := zat_of zP_42 rfl
theorem zi_42_18 : zat 42 18 19 (.istore_n 2) [] := zat_of zP_42 rfl
theorem zi_42_19 : zat 42 19 20 (.iinc 3 1) [] := zat_of zP_42 rfl
theorem zi_42_20 : zat 42 20 21 (.goto (-28)) [4] := zat_of zP_42 rfl
theorem zi_42_21 : zat 42 21 22 (.iload_n 2) [] := zat_of zP_42 rfl
theorem zi_42_22 : zat 42 22 23 (.ireturn) [] := zat_of zP_42 rfl
theorem zP_43 : zP 43 = zk_43 := rfl
theorem zi_43_0 : zat 43 0 1 (.aload_n 0) [] := zat_of zP_43 rfl
theorem zi_43_1 : zat 43 1 2 (.aload_n 0) [] := zat_of zP_43 rfl
theorem zi_43_2 : zat 43 2 3 (.getfield 47) [1, 7, 85] := zat_of zP_43 rfl
theorem zi_43_3 : zat 43 3 4 (.iconst 1) [] := zat_of zP_43 rfl
theorem zi_43_4 : zat 43 4 5 (.isub) [] := zat_of zP_43 rfl
theorem zi_43_5 : zat 43 5 6 (.invokevirtual 137) [42, 406, 408, 8] := zat_of zP_43 rfl
theorem zi_43_6 : zat 43 6 7 (.ireturn) [] := zat_of zP_43 rfl
theorem zP_44 : zP 44 = zk_44 := rfl
theorem zi_44_0 : zat 44 0 1 (.iconst 0) [] := zat_of zP_44 rfl
theorem zi_44_1 : zat 44 1 2 (.istore_n 2) [] := zat_of zP_44 rfl
theorem zi_44_2 : zat 44 2 3 (.iload_n 1) [] := zat_of zP_44 rfl
theorem zi_44_3 : zat 44 3 4 (.istore_n 3) [] := zat_of zP_44 rfl
theorem zi_44_4 : zat 44 4 5 (.iconst 0) [] := zat_of zP_44 rfl
theorem zi_44_5 : zat 44 5 6 (.istore 4) [] := zat_of zP_44 rfl
theorem zi_44_6 : zat 44 6 7 (.iconst 0) [] := zat_of zP_44 rfl
theorem zi_44_7 : zat 44 7 8 (.istore 5) [] := zat_of zP_44 rfl
theorem zi_44_8 : zat 44 8 9 (.iload 5) [] := zat_of zP_44 rfl
theorem zi_44_9 : zat 44 9 10 (.aload_n 0) [] := zat_of zP_44 rfl
theorem zi_44_10 : zat 44 10 11 (.getfield 47) [1, 7, 85] := zat_of zP_44 rfl
theorem zi_44_11 : zat 44 11 12 (.if_icmp .ge 56) [39] := zat_of zP_44 rfl
theorem zi_44_12 : zat 44 12 13 (.aload_n 0) [] := zat_of zP_44 rfl
theorem zi_44_13 : zat 44 13 14 (.getfield 30) [1, 8, 86] := zat_of zP_44 rfl
theorem zi_44_14 : zat 44 14 15 (.iload 5) [] := zat_of zP_44 rfl
theorem zi_44_15 : zat 44 15 16 (.invokestatic 66) [109, 224, 225] := zat_of zP_44 rfl
theorem zi_44_16 : zat 44 16 17 (.istore 6) [] := zat_of zP_44 rfl
theorem zi_44_17 : zat 44 17 18 (.aload_n 0) [] := zat_of zP_44 rfl
theorem zi_44_18 : zat 44 18 19 (.iload 6) [] := zat_of zP_44 rfl
theorem zi_44_19 : zat 44 19 20 (.iload_n 3) [] := zat_of zP_44 rfl
theorem zi_44_20 : zat 44 20 21 (.invokevirtual 134) [41, 410, 412, 9] := zat_of zP_44 rfl
theorem zi_44_21 : zat 44 21 22 (.istore 4) [] := zat_of zP_44 rfl
theorem zi_44_22 : zat 44 22 23 (.aload_n 0) [] := zat_of zP_44 rfl
theorem zi_44_23 : zat 44 23 24 (.iload 6) [] := zat_of zP_44 rfl
theorem zi_44_24 : zat 44 24 25 (.invokevirtual 140) [45, 418, 420, 10] := zat_of zP_44 rfl
theorem zi_44_25 : zat 44 25 26 (.ifCond .eq 17) [34] := zat_of zP_44 rfl
theorem zi_44_26 : zat 44 26 27 (.iload_n 3) [] := zat_of zP_44 rfl
theorem zi_44_27 : zat 44 27 28 (.ifCond .lt 8) [30] := zat_of zP_44 rfl
theorem zi_44_28 : zat 44 28 29 (.iload 4) [] := zat_of zP_44 rfl
theorem zi_44_29 : zat 44 29 30 (.ifCond .ge 8) [34] := zat_of zP_44 rfl
theorem zi_44_30 : zat 44 30 31 (.iconst 2) [] := zat_of zP_44 rfl
theorem zi_44_31 : zat 44 31 32 (.iload 6) [] := zat_of zP_44 rfl
theorem zi_44_32 : zat 44 32 33 (.iadd) [] := zat_of zP_44 rfl
theorem zi_44_33 : zat 44 33 34 (.istore_n 2) [] := zat_of zP_44 rfl
theorem zi_44_34 : zat 44 34 35 (.iload 4) [] := zat_of zP_44 rfl
theorem zi_44_35 : zat 44 35 36 (.ineg) [] := zat_of zP_44 rfl
theorem zi_44_36 : zat 44 36 37 (.istore_n 3) [] := zat_of zP_44 rfl
theorem zi_44_37 : zat 44 37 38 (.iinc 5 1) [] := zat_of zP_44 rfl
theorem zi_44_38 : zat 44 38 39 (.goto (-59)) [8] := zat_of zP_44 rfl
theorem zi_44_39 : zat 44 39 40 (.aload_n 0) [] := zat_of zP_44 rfl
theorem zi_44_40 : zat 44 40 41 (.getfield 50) [1, 9, 87] := zat_of zP_44 rfl
theorem zi_44_41 : zat 44 41 42 (.ifCond .eq 13) [47] := zat_of zP_44 rfl
theorem zi_44_42 : zat 44 42 43 (.iload 4) [] := zat_of zP_44 rfl
theorem zi_44_43 : zat 44 43 44 (.iload_n 1) [] := zat_of zP_44 rfl
theorem zi_44_44 : zat 44 44 45 (.if_icmp .ne 7) [47] := zat_of zP_44 rfl
theorem zi_44_45 : zat 44 45 46 (.iconst 1) [] := zat_of zP_44 rfl
theorem zi_44_46 : zat 44 46 47 (.goto 4) [48] := zat_of zP_44 rfl
theorem zi_44_47 : zat 44 47 48 (.iload_n 2) [] := zat_of zP_44 rfl
theorem zi_44_48 : zat 44 48 49 (.ireturn) [] := zat_of zP_44 rfl
theorem zP_45 : zP 45 = zk_45 := rfl
theorem zi_45_0 : zat 45 0 1 (.aload_n 0) [] := zat_of zP_45 rfl
theorem zi_45_1 : zat 45 1 2 (.getfield 9) [1, 1, 79] := zat_of zP_45 rfl
theorem zi_45_2 : zat 45 2 3 (.iload_n 1) [] := zat_of zP_45 rfl
theorem zi_45_3 : zat 45 3 4 (.invokestatic 66) [109, 224, 225] := zat_of zP_45 rfl
theorem zi_45_4 : zat 45 4 5 (.istore_n 2) [] := zat_of zP_45 rfl
theorem zi_45_5 : zat 45 5 6 (.iload_n 2) [] := zat_of zP_45 rfl
theorem zi_45_6 : zat 45 6 7 (.iconst 1) [] := zat_of zP_45 rfl
theorem zi_45_7 : zat 45 7 8 (.if_icmp .eq 8) [11] := zat_of zP_45 rfl
theorem zi_45_8 : zat 45 8 9 (.iload_n 2) [] := zat_of zP_45 rfl
theorem zi_45_9 : zat 45 9 10 (.iconst 3) [] := zat_of zP_45 rfl
theorem zi_45_10 : zat 45 10 11 (.if_icmp .ne 7) [13] := zat_of zP_45 rfl
theorem zi_45_11 : zat 45 11 12 (.iconst 1) [] := zat_of zP_45 rfl
theorem zi_45_12 : zat 45 12 13 (.goto 4) [14] := zat_of zP_45 rfl
theorem zi_45_13 : zat 45 13 14 (.iconst 0) [] := zat_of zP_45 rfl
theorem zi_45_14 : zat 45 14 15 (.ireturn) [] := zat_of zP_45 rfl
theorem zP_46 : zP 46 = zk_46 := rfl
theorem zi_46_0 : zat 46 0 1 (.iload_n 1) [] := zat_of zP_46 rfl
theorem zi_46_1 : zat 46 1 2 (.istore_n 2) [] := zat_of zP_46 rfl
theorem zi_46_2 : zat 46 2 3 (.iconst 0) [] := zat_of zP_46 rfl
theorem zi_46_3 : zat 46 3 4 (.istore_n 3) [] := zat_of zP_46 rfl
theorem zi_46_4 : zat 46 4 5 (.iload_n 3) [] := zat_of zP_46 rfl
theorem zi_46_5 : zat 46 5 6 (.aload_n 0) [] := zat_of zP_46 rfl
theorem zi_46_6 : zat 46 6 7 (.getfield 47) [1, 7, 85] := zat_of zP_46 rfl
theorem zi_46_7 : zat 46 7 8 (.if_icmp .ge 53) [36] := zat_of zP_46 rfl
theorem zi_46_8 : zat 46 8 9 (.aload_n 0) [] := zat_of zP_46 rfl
theorem zi_46_9 : zat 46 9 10 (.iload_n 3) [] := zat_of zP_46 rfl
theorem zi_46_10 : zat 46 10 11 (.invokevirtual 104) [27, 365, 366, 367] := zat_of zP_46 rfl
theorem zi_46_11 : zat 46 11 12 (.istore 4) [] := zat_of zP_46 rfl
theorem zi_46_12 : zat 46 12 13 (.aload_n 0) [] := zat_of zP_46 rfl
theorem zi_46_13 : zat 46 13 14 (.iload 4) [] := zat_of zP_46 rfl
theorem zi_46_14 : zat 46 14 15 (.aload_n 0) [] := zat_of zP_46 rfl
theorem zi_46_15 : zat 46 15 16 (.iload 4) [] := zat_of zP_46 rfl
theorem zi_46_16 : zat 46 16 17 (.invokevirtual 77) [24, 426, 245, 246] := zat_of zP_46 rfl
theorem zi_46_17 : zat 46 17 18 (.iload_n 2) [] := zat_of zP_46 rfl
theorem zi_46_18 : zat 46 18 19 (.invokevirtual 143) [47, 427, 429, 11] := zat_of zP_46 rfl
theorem zi_46_19 : zat 46 19 20 (.aload_n 0) [] := zat_of zP_46 rfl
theorem zi_46_20 : zat 46 20 21 (.iload 4) [] := zat_of zP_46 rfl
theorem zi_46_21 : zat 46 21 22 (.iload_n 2) [] := zat_of zP_46 rfl
theorem zi_46_22 : zat 46 22 23 (.invokevirtual 134) [41, 410, 412, 9] := zat_of zP_46 rfl
theorem zi_46_23 : zat 46 23 24 (.istore_n 2) [] := zat_of zP_46 rfl
theorem zi_46_24 : zat 46 24 25 (.aload_n 0) [] := zat_of zP_46 rfl
theorem zi_46_25 : zat 46 25 26 (.iload 4) [] := zat_of zP_46 rfl
theorem zi_46_26 : zat 46 26 27 (.aload_n 0) [] := zat_of zP_46 rfl
theorem zi_46_27 : zat 46 27 28 (.iload 4) [] := zat_of zP_46 rfl
theorem zi_46_28 : zat 46 28 29 (.invokevirtual 146) [25, 437, 438, 439] := zat_of zP_46 rfl
theorem zi_46_29 : zat 46 29 30 (.iload_n 2) [] := zat_of zP_46 rfl
theorem zi_46_30 : zat 46 30 31 (.invokevirtual 143) [47, 427, 429, 11] := zat_of zP_46 rfl
theorem zi_46_31 : zat 46 31 32 (.iload_n 2) [] := zat_of zP_46 rfl
theorem zi_46_32 : zat 46 32 33 (.ineg) [] := zat_of zP_46 rfl
theorem zi_46_33 : zat 46 33 34 (.istore_n 2) [] := zat_of zP_46 rfl
theorem zi_46_34 : zat 46 34 35 (.iinc 3 1) [] := zat_of zP_46 rfl
theorem zi_46_35 : zat 46 35 36 (.goto (-55)) [4] := zat_of zP_46 rfl
theorem zi_46_36 : zat 46 36 37 (.return_) [] := zat_of zP_46 rfl
theorem zP_47 : zP 47 = zk_47 := rfl
theorem zi_47_0 : zat 47 0 1 (.aload_n 0) [] := zat_of zP_47 rfl
theorem zi_47_1 : zat 47 1 2 (.iload_n 1) [] := zat_of zP_47 rfl
theorem zi_47_2 : zat 47 2 3 (.iload_n 2) [] := zat_of zP_47 rfl
theorem zi_47_3 : zat 47 3 4 (.aload_n 0) [] := zat_of zP_47 rfl
theorem zi_47_4 : zat 47 4 5 (.iload_n 1) [] := zat_of zP_47 rfl
theorem zi_47_5 : zat 47 5 6 (.iload_n 2) [] := zat_of zP_47 rfl
theorem zi_47_6 : zat 47 6 7 (.invokevirtual 131) [16, 369, 228, 229] := zat_of zP_47 rfl
theorem zi_47_7 : zat 47 7 8 (.iload_n 3) [] := zat_of zP_47 rfl
theorem zi_47_8 : zat 47 8 9 (.iadd) [] := zat_of zP_47 rfl
theorem zi_47_9 : zat 47 9 10 (.aload_n 0) [] := zat_of zP_47 rfl
theorem zi_47_10 : zat 47 10 11 (.iload_n 1) [] := zat_of zP_47 rfl
theorem zi_47_11 : zat 47 11 12 (.iload_n 2) [] := zat_of zP_47 rfl
theorem zi_47_12 : zat 47 12 13 (.invokevirtual 85) [15, 382, 221, 222] := zat_of zP_47 rfl
theorem zi_47_13 : zat 47 13 14 (.invokestatic 149) [48, 431, 432] := zat_of zP_47 rfl
theorem zi_47_14 : zat 47 14 15 (.invokevirtual 58) [17, 201, 202, 203] := zat_of zP_47 rfl
theorem zi_47_15 : zat 47 15 16 (.return_) [] := zat_of zP_47 rfl
theorem zP_48 : zP 48 = zk_48 := rfl
theorem zi_48_0 : zat 48 0 1 (.iload_n 1) [] := zat_of zP_48 rfl
theorem zi_48_1 : zat 48 1 2 (.ifCond .le 11) [6] := zat_of zP_48 rfl
theorem zi_48_2 : zat 48 2 3 (.iload_n 0) [] := zat_of zP_48 rfl
theorem zi_48_3 : zat 48 3 4 (.iload_n 1) [] := zat_of zP_48 rfl
theorem zi_48_4 : zat 48 4 5 (.invokestatic 152) [176, 434, 435] := zat_of zP_48 rfl
theorem zi_48_5 : zat 48 5 6 (.goto 4) [7] := zat_of zP_48 rfl
theorem zi_48_6 : zat 48 6 7 (.iconst 0) [] := zat_of zP_48 rfl
theorem zi_48_7 : zat 48 7 8 (.ireturn) [] := zat_of zP_48 rfl
theorem zP_49 : zP 49 = zk_49 := rfl
theorem zi_49_0 : zat 49 0 1 (.iconst 1) [] := zat_of zP_49 rfl
theorem zi_49_1 : zat 49 1 2 (.istore_n 1) [] := zat_of zP_49 rfl
theorem zi_49_2 : zat 49 2 3 (.iconst 0) [] := zat_of zP_49 rfl
theorem zi_49_3 : zat 49 3 4 (.istore_n 2) [] := zat_of zP_49 rfl
theorem zi_49_4 : zat 49 4 5 (.iload_n 2) [] := zat_of zP_49 rfl
theorem zi_49_5 : zat 49 5 6 (.aload_n 0) [] := zat_of zP_49 rfl
theorem zi_49_6 : zat 49 6 7 (.getfield 47) [1, 7, 85] := zat_of zP_49 rfl
theorem zi_49_7 : zat 49 7 8 (.if_icmp .ge 37) [28] := zat_of zP_49 rfl
theorem zi_49_8 : zat 49 8 9 (.aload_n 0) [] := zat_of zP_49 rfl
theorem zi_49_9 : zat 49 9 10 (.iload_n 2) [] := zat_of zP_49 rfl
theorem zi_49_10 : zat 49 10 11 (.invokevirtual 104) [27, 365, 366, 367] := zat_of zP_49 rfl
theorem zi_49_11 : zat 49 11 12 (.istore_n 3) [] := zat_of zP_49 rfl
theorem zi_49_12 : zat 49 12 13 (.iload_n 1) [] := zat_of zP_49 rfl
theorem zi_49_13 : zat 49 13 14 (.aload_n 0) [] := zat_of zP_49 rfl
theorem zi_49_14 : zat 49 14 15 (.iload_n 3) [] := zat_of zP_49 rfl
theorem zi_49_15 : zat 49 15 16 (.iconst 0) [] := zat_of zP_49 rfl
theorem zi_49_16 : zat 49 16 17 (.invokevirtual 85) [15, 382, 221, 222] := zat_of zP_49 rfl
theorem zi_49_17 : zat 49 17 18 (.invokestatic 155) [50, 494, 495] := zat_of zP_49 rfl
theorem zi_49_18 : zat 49 18 19 (.istore_n 1) [] := zat_of zP_49 rfl
theorem zi_49_19 : zat 49 19 20 (.iload_n 1) [] := zat_of zP_49 rfl
theorem zi_49_20 : zat 49 20 21 (.aload_n 0) [] := zat_of zP_49 rfl
theorem zi_49_21 : zat 49 21 22 (.iload_n 3) [] := zat_of zP_49 rfl
theorem zi_49_22 : zat 49 22 23 (.iconst 1) [] := zat_of zP_49 rfl
theorem zi_49_23 : zat 49 23 24 (.invokevirtual 85) [15, 382, 221, 222] := zat_of zP_49 rfl
theorem zi_49_24 : zat 49 24 25 (.invokestatic 155) [50, 494, 495] := zat_of zP_49 rfl
theorem zi_49_25 : zat 49 25 26 (.istore_n 1) [] := zat_of zP_49 rfl
theorem zi_49_26 : zat 49 26 27 (.iinc 2 1) [] := zat_of zP_49 rfl
theorem zi_49_27 : zat 49 27 28 (.goto (-39)) [4] := zat_of zP_49 rfl
theorem zi_49_28 : zat 49 28 29 (.iload_n 1) [] := zat_of zP_49 rfl
theorem zi_49_29 : zat 49 29 30 (.ireturn) [] := zat_of zP_49 rfl
theorem zP_50 : zP 50 = zk_50 := rfl
theorem zi_50_0 : zat 50 0 1 (.iload_n 0) [] := zat_of zP_50 rfl
theorem zi_50_1 : zat 50 1 2 (.istore_n 2) [] := zat_of zP_50 rfl
theorem zi_50_2 : zat 50 2 3 (.iconst 1) [] := zat_of zP_50 rfl
theorem zi_50_3 : zat 50 3 4 (.istore_n 3) [] := zat_of zP_50 rfl
theorem zi_50_4 : zat 50 4 5 (.iload_n 3) [] := zat_of zP_50 rfl
theorem zi_50_5 : zat 50 5 6 (.iload_n 1) [] := zat_of zP_50 rfl
theorem zi_50_6 : zat 50 6 7 (.if_icmp .ge 21) [17] := zat_of zP_50 rfl
theorem zi_50_7 : zat 50 7 8 (.iload_n 2) [] := zat_of zP_50 rfl
theorem zi_50_8 : zat 50 8 9 (.iload_n 1) [] := zat_of zP_50 rfl
theorem zi_50_9 : zat 50 9 10 (.invokestatic 149) [48, 431, 432] := zat_of zP_50 rfl
theorem zi_50_10 : zat 50 10 11 (.ifCond .eq 13) [17] := zat_of zP_50 rfl
theorem zi_50_11 : zat 50 11 12 (.iload_n 2) [] := zat_of zP_50 rfl
theorem zi_50_12 : zat 50 12 13 (.iload_n 0) [] := zat_of zP_50 rfl
theorem zi_50_13 : zat 50 13 14 (.iadd) [] := zat_of zP_50 rfl
theorem zi_50_14 : zat 50 14 15 (.istore_n 2) [] := zat_of zP_50 rfl
theorem zi_50_15 : zat 50 15 16 (.iinc 3 1) [] := zat_of zP_50 rfl
theorem zi_50_16 : zat 50 16 17 (.goto (-20)) [4] := zat_of zP_50 rfl
theorem zi_50_17 : zat 50 17 18 (.iload_n 2) [] := zat_of zP_50 rfl
theorem zi_50_18 : zat 50 18 19 (.ireturn) [] := zat_of zP_50 rfl
theorem zP_51 : zP 51 = zk_51 := rfl
theorem zi_51_0 : zat 51 0 1 (.iconst 0) [] := zat_of zP_51 rfl
theorem zi_51_1 : zat 51 1 2 (.istore_n 1) [] := zat_of zP_51 rfl
theorem zi_51_2 : zat 51 2 3 (.iconst 1) [] := zat_of zP_51 rfl
theorem zi_51_3 : zat 51 3 4 (.istore_n 2) [] := zat_of zP_51 rfl
theorem zi_51_4 : zat 51 4 5 (.iconst (-1)) [] := zat_of zP_51 rfl
theorem zi_51_5 : zat 51 5 6 (.istore_n 3) [] := zat_of zP_51 rfl
theorem zi_51_6 : zat 51 6 7 (.iconst 0) [] := zat_of zP_51 rfl
theorem zi_51_7 : zat 51 7 8 (.istore 4) [] := zat_of zP_51 rfl
theorem zi_51_8 : zat 51 8 9 (.iload 4) [] := zat_of zP_51 rfl
theorem zi_51_9 : zat 51 9 10 (.iconst 2) [] := zat_of zP_51 rfl
theorem zi_51_10 : zat 51 10 11 (.aload_n 0) [] := zat_of zP_51 rfl
theorem zi_51_11 : zat 51 11 12 (.getfield 47) [1, 7, 85] := zat_of zP_51 rfl
theorem zi_51_12 : zat 51 12 13 (.imul) [] := zat_of zP_51 rfl
theorem zi_51_13 : zat 51 13 14 (.if_icmp .ge 105) [69] := zat_of zP_51 rfl
theorem zi_51_14 : zat 51 14 15 (.aload_n 0) [] := zat_of zP_51 rfl
theorem zi_51_15 : zat 51 15 16 (.iload 4) [] := zat_of zP_51 rfl
theorem zi_51_16 : zat 51 16 17 (.iconst 2) [] := zat_of zP_51 rfl
theorem zi_51_17 : zat 51 17 18 (.idiv) [] := zat_of zP_51 rfl
theorem zi_51_18 : zat 51 18 19 (.invokevirtual 104) [27, 365, 366, 367] := zat_of zP_51 rfl
theorem zi_51_19 : zat 51 19 20 (.istore 5) [] := zat_of zP_51 rfl
theorem zi_51_20 : zat 51 20 21 (.iload 4) [] := zat_of zP_51 rfl
theorem zi_51_21 : zat 51 21 22 (.iconst 2) [] := zat_of zP_51 rfl
theorem zi_51_22 : zat 51 22 23 (.irem) [] := zat_of zP_51 rfl
theorem zi_51_23 : zat 51 23 24 (.ifCond .ne 7) [26] := zat_of zP_51 rfl
theorem zi_51_24 : zat 51 24 25 (.iconst 1) [] := zat_of zP_51 rfl
theorem zi_51_25 : zat 51 25 26 (.goto 4) [27] := zat_of zP_51 rfl
theorem zi_51_26 : zat 51 26 27 (.iconst 0) [] := zat_of zP_51 rfl
theorem zi_51_27 : zat 51 27 28 (.istore 6) [] := zat_of zP_51 rfl
theorem zi_51_28 : zat 51 28 29 (.iload 6) [] := zat_of zP_51 rfl
theorem zi_51_29 : zat 51 29 30 (.ifCond .eq 12) [34] := zat_of zP_51 rfl
theorem zi_51_30 : zat 51 30 31 (.aload_n 0) [] := zat_of zP_51 rfl
theorem zi_51_31 : zat 51 31 32 (.iload 5) [] := zat_of zP_51 rfl
theorem zi_51_32 : zat 51 32 33 (.invokevirtual 77) [24, 426, 245, 246] := zat_of zP_51 rfl
theorem zi_51_33 : zat 51 33 34 (.goto 9) [37] := zat_of zP_51 rfl
theorem zi_51_34 : zat 51 34 35 (.aload_n 0) [] := zat_of zP_51 rfl
theorem zi_51_35 : zat 51 35 36 (.iload 5) [] := zat_of zP_51 rfl
theorem zi_51_36 : zat 51 36 37 (.invokevirtual 146) [25, 437, 438, 439] := zat_of zP_51 rfl
theorem zi_51_37 : zat 51 37 38 (.istore 7) [] := zat_of zP_51 rfl
theorem zi_51_38 : zat 51 38 39 (.iload 6) [] := zat_of zP_51 rfl
theorem zi_51_39 : zat 51 39 40 (.ifCond .eq 8) [43] := zat_of zP_51 rfl
theorem zi_51_40 : zat 51 40 41 (.iload_n 3) [] := zat_of zP_51 rfl
theorem zi_51_41 : zat 51 41 42 (.ineg) [] := zat_of zP_51 rfl
theorem zi_51_42 : zat 51 42 43 (.goto 10) [47] := zat_of zP_51 rfl
theorem zi_51_43 : zat 51 43 44 (.aload_n 0) [] := zat_of zP_51 rfl
theorem zi_51_44 : zat 51 44 45 (.iload 5) [] := zat_of zP_51 rfl
theorem zi_51_45 : zat 51 45 46 (.iload_n 3) [] := zat_of zP_51 rfl
theorem zi_51_46 : zat 51 46 47 (.invokevirtual 134) [41, 410, 412, 9] := zat_of zP_51 rfl
theorem zi_51_47 : zat 51 47 48 (.istore_n 3) [] := zat_of zP_51 rfl
theorem zi_51_48 : zat 51 48 49 (.aload_n 0) [] := zat_of zP_51 rfl
theorem zi_51_49 : zat 51 49 50 (.iload 5) [] := zat_of zP_51 rfl
theorem zi_51_50 : zat 51 50 51 (.iload 7) [] := zat_of zP_51 rfl
theorem zi_51_51 : zat 51 51 52 (.iload_n 3) [] := zat_of zP_51 rfl
theorem zi_51_52 : zat 51 52 53 (.iload_n 1) [] := zat_of zP_51 rfl
theorem zi_51_53 : zat 51 53 54 (.iload_n 2) [] := zat_of zP_51 rfl
theorem zi_51_54 : zat 51 54 55 (.invokevirtual 158) [52, 505, 507, 14] := zat_of zP_51 rfl
theorem zi_51_55 : zat 51 55 56 (.istore_n 1) [] := zat_of zP_51 rfl
theorem zi_51_56 : zat 51 56 57 (.iload_n 1) [] := zat_of zP_51 rfl
theorem zi_51_57 : zat 51 57 58 (.ifCond .ge 6) [60] := zat_of zP_51 rfl
theorem zi_51_58 : zat 51 58 59 (.bipush (-4)) [] := zat_of zP_51 rfl
theorem zi_51_59 : zat 51 59 60 (.ireturn) [] := zat_of zP_51 rfl
theorem zi_51_60 : zat 51 60 61 (.iload_n 2) [] := zat_of zP_51 rfl
theorem zi_51_61 : zat 51 61 62 (.aload_n 0) [] := zat_of zP_51 rfl
theorem zi_51_62 : zat 51 62 63 (.iload 5) [] := zat_of zP_51 rfl
theorem zi_51_63 : zat 51 63 64 (.iload 7) [] := zat_of zP_51 rfl
theorem zi_51_64 : zat 51 64 65 (.invokevirtual 85) [15, 382, 221, 222] := zat_of zP_51 rfl
theorem zi_51_65 : zat 51 65 66 (.invokestatic 155) [50, 494, 495] := zat_of zP_51 rfl
theorem zi_51_66 : zat 51 66 67 (.istore_n 2) [] := zat_of zP_51 rfl
theorem zi_51_67 : zat 51 67 68 (.iinc 4 1) [] := zat_of zP_51 rfl
theorem zi_51_68 : zat 51 68 69 (.goto (-110)) [8] := zat_of zP_51 rfl
theorem zi_51_69 : zat 51 69 70 (.iload_n 1) [] := zat_of zP_51 rfl
theorem zi_51_70 : zat 51 70 71 (.ireturn) [] := zat_of zP_51 rfl
theorem zP_52 : zP 52 = zk_52 := rfl
theorem zi_52_0 : zat 52 0 1 (.aload_n 0) [] := zat_of zP_52 rfl
theorem zi_52_1 : zat 52 1 2 (.iload_n 1) [] := zat_of zP_52 rfl
theorem zi_52_2 : zat 52 2 3 (.iload_n 2) [] := zat_of zP_52 rfl
theorem zi_52_3 : zat 52 3 4 (.invokevirtual 85) [15, 382, 221, 222] := zat_of zP_52 rfl
theorem zi_52_4 : zat 52 4 5 (.istore 6) [] := zat_of zP_52 rfl
theorem zi_52_5 : zat 52 5 6 (.aload_n 0) [] := zat_of zP_52 rfl
theorem zi_52_6 : zat 52 6 7 (.iload_n 1) [] := zat_of zP_52 rfl
theorem zi_52_7 : zat 52 7 8 (.iload_n 2) [] := zat_of zP_52 rfl
theorem zi_52_8 : zat 52 8 9 (.invokevirtual 131) [16, 369, 228, 229] := zat_of zP_52 rfl
theorem zi_52_9 : zat 52 9 10 (.istore 7) [] := zat_of zP_52 rfl
theorem zi_52_10 : zat 52 10 11 (.iconst 0) [] := zat_of zP_52 rfl
theorem zi_52_11 : zat 52 11 12 (.istore 8) [] := zat_of zP_52 rfl
theorem zi_52_12 : zat 52 12 13 (.iload 8) [] := zat_of zP_52 rfl
theorem zi_52_13 : zat 52 13 14 (.iload 6) [] := zat_of zP_52 rfl
theorem zi_52_14 : zat 52 14 15 (.if_icmp .ge 37) [33] := zat_of zP_52 rfl
theorem zi_52_15 : zat 52 15 16 (.iload 4) [] := zat_of zP_52 rfl
theorem zi_52_16 : zat 52 16 17 (.iload 8) [] := zat_of zP_52 rfl
theorem zi_52_17 : zat 52 17 18 (.iload 5) [] := zat_of zP_52 rfl
theorem zi_52_18 : zat 52 18 19 (.imul) [] := zat_of zP_52 rfl
theorem zi_52_19 : zat 52 19 20 (.iadd) [] := zat_of zP_52 rfl
theorem zi_52_20 : zat 52 20 21 (.istore 9) [] := zat_of zP_52 rfl
theorem zi_52_21 : zat 52 21 22 (.iload 7) [] := zat_of zP_52 rfl
theorem zi_52_22 : zat 52 22 23 (.iload_n 3) [] := zat_of zP_52 rfl
theorem zi_52_23 : zat 52 23 24 (.iload 9) [] := zat_of zP_52 rfl
theorem zi_52_24 : zat 52 24 25 (.imul) [] := zat_of zP_52 rfl
theorem zi_52_25 : zat 52 25 26 (.iadd) [] := zat_of zP_52 rfl
theorem zi_52_26 : zat 52 26 27 (.iload 6) [] := zat_of zP_52 rfl
theorem zi_52_27 : zat 52 27 28 (.invokestatic 149) [48, 431, 432] := zat_of zP_52 rfl
theorem zi_52_28 : zat 52 28 29 (.ifCond .ne 6) [31] := zat_of zP_52 rfl
theorem zi_52_29 : zat 52 29 30 (.iload 9) [] := zat_of zP_52 rfl
theorem zi_52_30 : zat 52 30 31 (.ireturn) [] := zat_of zP_52 rfl
theorem zi_52_31 : zat 52 31 32 (.iinc 8 1) [] := zat_of zP_52 rfl
theorem zi_52_32 : zat 52 32 33 (.goto (-38)) [12] := zat_of zP_52 rfl
theorem zi_52_33 : zat 52 33 34 (.bipush (-4)) [] := zat_of zP_52 rfl
theorem zi_52_34 : zat 52 34 35 (.ireturn) [] := zat_of zP_52 rfl
theorem zP_53 : zP 53 = zk_53 := rfl
theorem zi_53_0 : zat 53 0 1 (.aload_n 0) [] := zat_of zP_53 rfl
theorem zi_53_1 : zat 53 1 2 (.iload_n 1) [] := zat_of zP_53 rfl
theorem zi_53_2 : zat 53 2 3 (.invokevirtual 146) [25, 437, 438, 439] := zat_of zP_53 rfl
theorem zi_53_3 : zat 53 3 4 (.istore_n 3) [] := zat_of zP_53 rfl
theorem zi_53_4 : zat 53 4 5 (.iload_n 2) [] := zat_of zP_53 rfl
theorem zi_53_5 : zat 53 5 6 (.aload_n 0) [] := zat_of zP_53 rfl
theorem zi_53_6 : zat 53 6 7 (.iload_n 1) [] := zat_of zP_53 rfl
theorem zi_53_7 : zat 53 7 8 (.iload_n 3) [] := zat_of zP_53 rfl
theorem zi_53_8 : zat 53 8 9 (.invokevirtual 131) [16, 369, 228, 229] := zat_of zP_53 rfl
theorem zi_53_9 : zat 53 9 10 (.isub) [] := zat_of zP_53 rfl
theorem zi_53_10 : zat 53 10 11 (.istore 4) [] := zat_of zP_53 rfl
theorem zi_53_11 : zat 53 11 12 (.aload_n 0) [] := zat_of zP_53 rfl
theorem zi_53_12 : zat 53 12 13 (.aload_n 0) [] := zat_of zP_53 rfl
theorem zi_53_13 : zat 53 13 14 (.iload_n 1) [] := zat_of zP_53 rfl
theorem zi_53_14 : zat 53 14 15 (.invokevirtual 74) [22, 260, 241, 242] := zat_of zP_53 rfl
theorem zi_53_15 : zat 53 15 16 (.invokevirtual 137) [42, 406, 408, 8] := zat_of zP_53 rfl
theorem zi_53_16 : zat 53 16 17 (.iload 4) [] := zat_of zP_53 rfl
theorem zi_53_17 : zat 53 17 18 (.imul) [] := zat_of zP_53 rfl
theorem zi_53_18 : zat 53 18 19 (.aload_n 0) [] := zat_of zP_53 rfl
theorem zi_53_19 : zat 53 19 20 (.iload_n 1) [] := zat_of zP_53 rfl
theorem zi_53_20 : zat 53 20 21 (.iload_n 3) [] := zat_of zP_53 rfl
theorem zi_53_21 : zat 53 21 22 (.invokevirtual 85) [15, 382, 221, 222] := zat_of zP_53 rfl
theorem zi_53_22 : zat 53 22 23 (.invokestatic 149) [48, 431, 432] := zat_of zP_53 rfl
theorem zi_53_23 : zat 53 23 24 (.ireturn) [] := zat_of zP_53 rfl
theorem zP_54 : zP 54 = zk_54 := rfl
theorem zi_54_0 : zat 54 0 1 (.aload_n 0) [] := zat_of zP_54 rfl
theorem zi_54_1 : zat 54 1 2 (.iload_n 1) [] := zat_of zP_54 rfl
theorem zi_54_2 : zat 54 2 3 (.invokevirtual 162) [55, 544, 546, 16] := zat_of zP_54 rfl
theorem zi_54_3 : zat 54 3 4 (.istore_n 2) [] := zat_of zP_54 rfl
theorem zi_54_4 : zat 54 4 5 (.iload_n 2) [] := zat_of zP_54 rfl
theorem zi_54_5 : zat 54 5 6 (.ifCond .ne 5) [8] := zat_of zP_54 rfl
theorem zi_54_6 : zat 54 6 7 (.iconst 0) [] := zat_of zP_54 rfl
theorem zi_54_7 : zat 54 7 8 (.ireturn) [] := zat_of zP_54 rfl
theorem zi_54_8 : zat 54 8 9 (.aload_n 0) [] := zat_of zP_54 rfl
theorem zi_54_9 : zat 54 9 10 (.aload_n 0) [] := zat_of zP_54 rfl
theorem zi_54_10 : zat 54 10 11 (.getfield 36) [1, 11, 89] := zat_of zP_54 rfl
theorem zi_54_11 : zat 54 11 12 (.ldc 165) [1103515245, 0, 549] := zat_of zP_54 rfl
theorem zi_54_12 : zat 54 12 13 (.imul) [] := zat_of zP_54 rfl
theorem zi_54_13 : zat 54 13 14 (.sipush 12345) [] := zat_of zP_54 rfl
theorem zi_54_14 : zat 54 14 15 (.iadd) [] := zat_of zP_54 rfl
theorem zi_54_15 : zat 54 15 16 (.ldc 166) [2147483647, 0, 550] := zat_of zP_54 rfl
theorem zi_54_16 : zat 54 16 17 (.iand) [] := zat_of zP_54 rfl
theorem zi_54_17 : zat 54 17 18 (.putfield 36) [1, 11, 89] := zat_of zP_54 rfl
theorem zi_54_18 : zat 54 18 19 (.aload_n 0) [] := zat_of zP_54 rfl
theorem zi_54_19 : zat 54 19 20 (.getfield 36) [1, 11, 89] := zat_of zP_54 rfl
theorem zi_54_20 : zat 54 20 21 (.ldc 167) [65536, 0, 551] := zat_of zP_54 rfl
theorem zi_54_21 : zat 54 21 22 (.idiv) [] := zat_of zP_54 rfl
theorem zi_54_22 : zat 54 22 23 (.iload_n 2) [] := zat_of zP_54 rfl
theorem zi_54_23 : zat 54 23 24 (.invokestatic 149) [48, 431, 432] := zat_of zP_54 rfl
theorem zi_54_24 : zat 54 24 25 (.istore_n 3) [] := zat_of zP_54 rfl
theorem zi_54_25 : zat 54 25 26 (.iconst 0) [] := zat_of zP_54 rfl
theorem zi_54_26 : zat 54 26 27 (.istore 4) [] := zat_of zP_54 rfl
theorem zi_54_27 : zat 54 27 28 (.iload 4) [] := zat_of zP_54 rfl
theorem zi_54_28 : zat 54 28 29 (.bipush 24) [] := zat_of zP_54 rfl
theorem zi_54_29 : zat 54 29 30 (.if_icmp .ge 41) [51] := zat_of zP_54 rfl
theorem zi_54_30 : zat 54 30 31 (.aload_n 0) [] := zat_of zP_54 rfl
theorem zi_54_31 : zat 54 31 32 (.iload_n 1) [] := zat_of zP_54 rfl
theorem zi_54_32 : zat 54 32 33 (.iload 4) [] := zat_of zP_54 rfl
theorem zi_54_33 : zat 54 33 34 (.invokevirtual 168) [35, 548, 515, 516] := zat_of zP_54 rfl
theorem zi_54_34 : zat 54 34 35 (.ifCond .eq 25) [49] := zat_of zP_54 rfl
theorem zi_54_35 : zat 54 35 36 (.iload_n 3) [] := zat_of zP_54 rfl
theorem zi_54_36 : zat 54 36 37 (.ifCond .ne 18) [48] := zat_of zP_54 rfl
theorem zi_54_37 : zat 54 37 38 (.aload_n 0) [] := zat_of zP_54 rfl
theorem zi_54_38 : zat 54 38 39 (.iload 4) [] := zat_of zP_54 rfl
theorem zi_54_39 : zat 54 39 40 (.iconst 2) [] := zat_of zP_54 rfl
theorem zi_54_40 : zat 54 40 41 (.idiv) [] := zat_of zP_54 rfl
theorem zi_54_41 : zat 54 41 42 (.iload 4) [] := zat_of zP_54 rfl
theorem zi_54_42 : zat 54 42 43 (.iconst 2) [] := zat_of zP_54 rfl
theorem zi_54_43 : zat 54 43 44 (.irem) [] := zat_of zP_54 rfl
theorem zi_54_44 : zat 54 44 45 (.invokevirtual 171) [37, 552, 399, 400] := zat_of zP_54 rfl
theorem zi_54_45 : zat 54 45 46 (.pop) [] := zat_of zP_54 rfl
theorem zi_54_46 : zat 54 46 47 (.iconst 1) [] := zat_of zP_54 rfl
theorem zi_54_47 : zat 54 47 48 (.ireturn) [] := zat_of zP_54 rfl
theorem zi_54_48 : zat 54 48 49 (.iinc 3 (-1)) [] := zat_of zP_54 rfl
theorem zi_54_49 : zat 54 49 50 (.iinc 4 1) [] := zat_of zP_54 rfl
theorem zi_54_50 : zat 54 50 51 (.goto (-42)) [27] := zat_of zP_54 rfl
theorem zi_54_51 : zat 54 51 52 (.iconst 0) [] := zat_of zP_54 rfl
theorem zi_54_52 : zat 54 52 53 (.ireturn) [] := zat_of zP_54 rfl
theorem zP_55 : zP 55 = zk_55 := rfl
theorem zi_55_0 : zat 55 0 1 (.iconst 0) [] := zat_of zP_55 rfl
theorem zi_55_1 : zat 55 1 2 (.istore_n 2) [] := zat_of zP_55 rfl
theorem zi_55_2 : zat 55 2 3 (.iconst 0) [] := zat_of zP_55 rfl
theorem zi_55_3 : zat 55 3 4 (.istore_n 3) [] := zat_of zP_55 rfl
theorem zi_55_4 : zat 55 4 5 (.iload_n 3) [] := zat_of zP_55 rfl
theorem zi_55_5 : zat 55 5 6 (.bipush 24) [] := zat_of zP_55 rfl
theorem zi_55_6 : zat 55 6 7 (.if_icmp .ge 21) [15] := zat_of zP_55 rfl
theorem zi_55_7 : zat 55 7 8 (.aload_n 0) [] := zat_of zP_55 rfl
theorem zi_55_8 : zat 55 8 9 (.iload_n 1) [] := zat_of zP_55 rfl
theorem zi_55_9 : zat 55 9 10 (.iload_n 3) [] := zat_of zP_55 rfl
theorem zi_55_10 : zat 55 10 11 (.invokevirtual 168) [35, 548, 515, 516] := zat_of zP_55 rfl
theorem zi_55_11 : zat 55 11 12 (.ifCond .eq 6) [13] := zat_of zP_55 rfl
theorem zi_55_12 : zat 55 12 13 (.iinc 2 1) [] := zat_of zP_55 rfl
theorem zi_55_13 : zat 55 13 14 (.iinc 3 1) [] := zat_of zP_55 rfl
theorem zi_55_14 : zat 55 14 15 (.goto (-21)) [4] := zat_of zP_55 rfl
theorem zi_55_15 : zat 55 15 16 (.iload_n 2) [] := zat_of zP_55 rfl
theorem zi_55_16 : zat 55 16 17 (.ireturn) [] := zat_of zP_55 rfl
theorem zP_56 : zP 56 = zk_56 := rfl
theorem zi_56_0 : zat 56 0 1 (.aload_n 0) [] := zat_of zP_56 rfl
theorem zi_56_1 : zat 56 1 2 (.getfield 15) [2, 1, 123] := zat_of zP_56 rfl
theorem zi_56_2 : zat 56 2 3 (.ireturn) [] := zat_of zP_56 rfl
theorem zP_57 : zP 57 = zk_57 := rfl
theorem zi_57_0 : zat 57 0 1 (.aload_n 0) [] := zat_of zP_57 rfl
theorem zi_57_1 : zat 57 1 2 (.getfield 9) [2, 0, 122] := zat_of zP_57 rfl
theorem zi_57_2 : zat 57 2 3 (.aload_n 0) [] := zat_of zP_57 rfl
theorem zi_57_3 : zat 57 3 4 (.getfield 15) [2, 1, 123] := zat_of zP_57 rfl
theorem zi_57_4 : zat 57 4 5 (.iload_n 1) [] := zat_of zP_57 rfl
theorem zi_57_5 : zat 57 5 6 (.invokestatic 19) [110, 280, 199] := zat_of zP_57 rfl
theorem zi_57_6 : zat 57 6 7 (.aload_n 0) [] := zat_of zP_57 rfl
theorem zi_57_7 : zat 57 7 8 (.dup) [] := zat_of zP_57 rfl
theorem zi_57_8 : zat 57 8 9 (.getfield 15) [2, 1, 123] := zat_of zP_57 rfl
theorem zi_57_9 : zat 57 9 10 (.iconst 1) [] := zat_of zP_57 rfl
theorem zi_57_10 : zat 57 10 11 (.iadd) [] := zat_of zP_57 rfl
theorem zi_57_11 : zat 57 11 12 (.putfield 15) [2, 1, 123] := zat_of zP_57 rfl
theorem zi_57_12 : zat 57 12 13 (.return_) [] := zat_of zP_57 rfl
theorem zP_58 : zP 58 = zk_58 := rfl
theorem zi_58_0 : zat 58 0 1 (.aload_n 0) [] := zat_of zP_58 rfl
theorem zi_58_1 : zat 58 1 2 (.iconst 0) [] := zat_of zP_58 rfl
theorem zi_58_2 : zat 58 2 3 (.putfield 15) [2, 1, 123] := zat_of zP_58 rfl
theorem zi_58_3 : zat 58 3 4 (.return_) [] := zat_of zP_58 rfl
theorem zP_59 : zP 59 = zk_59 := rfl
theorem zi_59_0 : zat 59 0 1 (.aload_n 0) [] := zat_of zP_59 rfl
theorem zi_59_1 : zat 59 1 2 (.iconst (-1)) [] := zat_of zP_59 rfl
theorem zi_59_2 : zat 59 2 3 (.putfield 23) [2, 2, 124] := zat_of zP_59 rfl
theorem zi_59_3 : zat 59 3 4 (.aload_n 0) [] := zat_of zP_59 rfl
theorem zi_59_4 : zat 59 4 5 (.invokevirtual 26) [60, 306, 308, 1] := zat_of zP_59 rfl
theorem zi_59_5 : zat 59 5 6 (.aload_n 0) [] := zat_of zP_59 rfl
theorem zi_59_6 : zat 59 6 7 (.aload_n 1) [] := zat_of zP_59 rfl
theorem zi_59_7 : zat 59 7 8 (.invokevirtual 29) [61, 311, 313, 2] := zat_of zP_59 rfl
theorem zi_59_8 : zat 59 8 9 (.istore_n 2) [] := zat_of zP_59 rfl
theorem zi_59_9 : zat 59 9 10 (.iconst 1) [] := zat_of zP_59 rfl
theorem zi_59_10 : zat 59 10 11 (.istore_n 3) [] := zat_of zP_59 rfl
theorem zi_59_11 : zat 59 11 12 (.iload_n 3) [] := zat_of zP_59 rfl
theorem zi_59_12 : zat 59 12 13 (.bipush 8) [] := zat_of zP_59 rfl
theorem zi_59_13 : zat 59 13 14 (.if_icmp .ge 47) [35] := zat_of zP_59 rfl
theorem zi_59_14 : zat 59 14 15 (.iload_n 2) [] := zat_of zP_59 rfl
theorem zi_59_15 : zat 59 15 16 (.ifCond .eq 43) [35] := zat_of zP_59 rfl
theorem zi_59_16 : zat 59 16 17 (.aload_n 0) [] := zat_of zP_59 rfl
theorem zi_59_17 : zat 59 17 18 (.getfield 23) [2, 2, 124] := zat_of zP_59 rfl
theorem zi_59_18 : zat 59 18 19 (.aload_n 0) [] := zat_of zP_59 rfl
theorem zi_59_19 : zat 59 19 20 (.getfield 15) [2, 1, 123] := zat_of zP_59 rfl
theorem zi_59_20 : zat 59 20 21 (.if_icmp .ge 32) [35] := zat_of zP_59 rfl
theorem zi_59_21 : zat 59 21 22 (.aload_n 0) [] := zat_of zP_59 rfl
theorem zi_59_22 : zat 59 22 23 (.bipush 44) [] := zat_of zP_59 rfl
theorem zi_59_23 : zat 59 23 24 (.invokevirtual 33) [65, 324, 326, 5] := zat_of zP_59 rfl
theorem zi_59_24 : zat 59 24 25 (.ifCond .eq 15) [31] := zat_of zP_59 rfl
theorem zi_59_25 : zat 59 25 26 (.aload_n 0) [] := zat_of zP_59 rfl
theorem zi_59_26 : zat 59 26 27 (.aload_n 1) [] := zat_of zP_59 rfl
theorem zi_59_27 : zat 59 27 28 (.invokevirtual 29) [61, 311, 313, 2] := zat_of zP_59 rfl
theorem zi_59_28 : zat 59 28 29 (.ifCond .eq 7) [31] := zat_of zP_59 rfl
theorem zi_59_29 : zat 59 29 30 (.iconst 1) [] := zat_of zP_59 rfl
theorem zi_59_30 : zat 59 30 31 (.goto 4) [32] := zat_of zP_59 rfl
theorem zi_59_31 : zat 59 31 32 (.iconst 0) [] := zat_of zP_59 rfl
theorem zi_59_32 : zat 59 32 33 (.istore_n 2) [] := zat_of zP_59 rfl
theorem zi_59_33 : zat 59 33 34 (.iinc 3 1) [] := zat_of zP_59 rfl
theorem zi_59_34 : zat 59 34 35 (.goto (-47)) [11] := zat_of zP_59 rfl
theorem zi_59_35 : zat 59 35 36 (.iload_n 2) [] := zat_of zP_59 rfl
theorem zi_59_36 : zat 59 36 37 (.ifCond .eq 21) [45] := zat_of zP_59 rfl
theorem zi_59_37 : zat 59 37 38 (.aload_n 0) [] := zat_of zP_59 rfl
theorem zi_59_38 : zat 59 38 39 (.getfield 23) [2, 2, 124] := zat_of zP_59 rfl
theorem zi_59_39 : zat 59 39 40 (.aload_n 0) [] := zat_of zP_59 rfl
theorem zi_59_40 : zat 59 40 41 (.getfield 15) [2, 1, 123] := zat_of zP_59 rfl
theorem zi_59_41 : zat 59 41 42 (.if_icmp .ne 10) [45] := zat_of zP_59 rfl
theorem zi_59_42 : zat 59 42 43 (.aload_n 1) [] := zat_of zP_59 rfl
theorem zi_59_43 : zat 59 43 44 (.invokevirtual 37) [11, 335, 336, 337] := zat_of zP_59 rfl
theorem zi_59_44 : zat 59 44 45 (.goto 10) [49] := zat_of zP_59 rfl
theorem zi_59_45 : zat 59 45 46 (.bipush (-20)) [] := zat_of zP_59 rfl
theorem zi_59_46 : zat 59 46 47 (.aload_n 0) [] := zat_of zP_59 rfl
theorem zi_59_47 : zat 59 47 48 (.getfield 23) [2, 2, 124] := zat_of zP_59 rfl
theorem zi_59_48 : zat 59 48 49 (.isub) [] := zat_of zP_59 rfl
theorem zi_59_49 : zat 59 49 50 (.ireturn) [] := zat_of zP_59 rfl
theorem zP_60 : zP 60 = zk_60 := rfl
theorem zi_60_0 : zat 60 0 1 (.aload_n 0) [] := zat_of zP_60 rfl
theorem zi_60_1 : zat 60 1 2 (.dup) [] := zat_of zP_60 rfl
theorem zi_60_2 : zat 60 2 3 (.getfield 23) [2, 2, 124] := zat_of zP_60 rfl
theorem zi_60_3 : zat 60 3 4 (.iconst 1) [] := zat_of zP_60 rfl
theorem zi_60_4 : zat 60 4 5 (.iadd) [] := zat_of zP_60 rfl
theorem zi_60_5 : zat 60 5 6 (.putfield 23) [2, 2, 124] := zat_of zP_60 rfl
theorem zi_60_6 : zat 60 6 7 (.aload_n 0) [] := zat_of zP_60 rfl
theorem zi_60_7 : zat 60 7 8 (.getfield 23) [2, 2, 124] := zat_of zP_60 rfl
theorem zi_60_8 : zat 60 8 9 (.aload_n 0) [] := zat_of zP_60 rfl
theorem zi_60_9 : zat 60 9 10 (.getfield 15) [2, 1, 123] := zat_of zP_60 rfl
theorem zi_60_10 : zat 60 10 11 (.if_icmp .ge 19) [18] := zat_of zP_60 rfl
theorem zi_60_11 : zat 60 11 12 (.aload_n 0) [] := zat_of zP_60 rfl
theorem zi_60_12 : zat 60 12 13 (.getfield 9) [2, 0, 122] := zat_of zP_60 rfl
theorem zi_60_13 : zat 60 13 14 (.aload_n 0) [] := zat_of zP_60 rfl
theorem zi_60_14 : zat 60 14 15 (.getfield 23) [2, 2, 124] := zat_of zP_60 rfl
theorem zi_60_15 : zat 60 15 16 (.invokestatic 43) [109, 310, 225] := zat_of zP_60 rfl
theorem zi_60_16 : zat 60 16 17 (.bipush 32) [] := zat_of zP_60 rfl
theorem zi_60_17 : zat 60 17 18 (.if_icmp .eq (-34)) [0] := zat_of zP_60 rfl
theorem zi_60_18 : zat 60 18 19 (.return_) [] := zat_of zP_60 rfl
theorem zP_61 : zP 61 = zk_61 := rfl
theorem zi_61_0 : zat 61 0 1 (.aload_n 0) [] := zat_of zP_61 rfl
theorem zi_61_1 : zat 61 1 2 (.iconst 3) [] := zat_of zP_61 rfl
theorem zi_61_2 : zat 61 2 3 (.bipush 9) [] := zat_of zP_61 rfl
theorem zi_61_3 : zat 61 3 4 (.invokevirtual 47) [64, 315, 317, 3] := zat_of zP_61 rfl
theorem zi_61_4 : zat 61 4 5 (.istore_n 2) [] := zat_of zP_61 rfl
theorem zi_61_5 : zat 61 5 6 (.iload_n 2) [] := zat_of zP_61 rfl
theorem zi_61_6 : zat 61 6 7 (.ifCond .ge 8) [9] := zat_of zP_61 rfl
theorem zi_61_7 : zat 61 7 8 (.bipush (-4)) [] := zat_of zP_61 rfl
theorem zi_61_8 : zat 61 8 9 (.goto 10) [13] := zat_of zP_61 rfl
theorem zi_61_9 : zat 61 9 10 (.aload_n 0) [] := zat_of zP_61 rfl
theorem zi_61_10 : zat 61 10 11 (.iconst 3) [] := zat_of zP_61 rfl
theorem zi_61_11 : zat 61 11 12 (.bipush 9) [] := zat_of zP_61 rfl
theorem zi_61_12 : zat 61 12 13 (.invokevirtual 47) [64, 315, 317, 3] := zat_of zP_61 rfl
theorem zi_61_13 : zat 61 13 14 (.istore_n 3) [] := zat_of zP_61 rfl
theorem zi_61_14 : zat 61 14 15 (.iload_n 3) [] := zat_of zP_61 rfl
theorem zi_61_15 : zat 61 15 16 (.ifCond .ge 5) [18] := zat_of zP_61 rfl
theorem zi_61_16 : zat 61 16 17 (.iconst 0) [] := zat_of zP_61 rfl
theorem zi_61_17 : zat 61 17 18 (.ireturn) [] := zat_of zP_61 rfl
theorem zi_61_18 : zat 61 18 19 (.aload_n 1) [] := zat_of zP_61 rfl
theorem zi_61_19 : zat 61 19 20 (.aload_n 0) [] := zat_of zP_61 rfl
theorem zi_61_20 : zat 61 20 21 (.invokevirtual 51) [63, 320, 322, 4] := zat_of zP_61 rfl
theorem zi_61_21 : zat 61 21 22 (.iload_n 2) [] := zat_of zP_61 rfl
theorem zi_61_22 : zat 61 22 23 (.iload_n 3) [] := zat_of zP_61 rfl
theorem zi_61_23 : zat 61 23 24 (.invokevirtual 54) [9, 328, 195, 196] := zat_of zP_61 rfl
theorem zi_61_24 : zat 61 24 25 (.istore 4) [] := zat_of zP_61 rfl
theorem zi_61_25 : zat 61 25 26 (.aload_n 0) [] := zat_of zP_61 rfl
theorem zi_61_26 : zat 61 26 27 (.bipush 64) [] := zat_of zP_61 rfl
theorem zi_61_27 : zat 61 27 28 (.invokevirtual 33) [65, 324, 326, 5] := zat_of zP_61 rfl
theorem zi_61_28 : zat 61 28 29 (.ifCond .eq 25) [41] := zat_of zP_61 rfl
theorem zi_61_29 : zat 61 29 30 (.aload_n 0) [] := zat_of zP_61 rfl
theorem zi_61_30 : zat 61 30 31 (.aload_n 1) [] := zat_of zP_61 rfl
theorem zi_61_31 : zat 61 31 32 (.iload 4) [] := zat_of zP_61 rfl
theorem zi_61_32 : zat 61 32 33 (.iconst 0) [] := zat_of zP_61 rfl
theorem zi_61_33 : zat 61 33 34 (.invokevirtual 58) [62, 329, 331, 6] := zat_of zP_61 rfl
theorem zi_61_34 : zat 61 34 35 (.ifCond .eq 18) [43] := zat_of zP_61 rfl
theorem zi_61_35 : zat 61 35 36 (.aload_n 0) [] := zat_of zP_61 rfl
theorem zi_61_36 : zat 61 36 37 (.aload_n 1) [] := zat_of zP_61 rfl
theorem zi_61_37 : zat 61 37 38 (.iload 4) [] := zat_of zP_61 rfl
theorem zi_61_38 : zat 61 38 39 (.iconst 1) [] := zat_of zP_61 rfl
theorem zi_61_39 : zat 61 39 40 (.invokevirtual 58) [62, 329, 331, 6] := zat_of zP_61 rfl
theorem zi_61_40 : zat 61 40 41 (.ifCond .eq 7) [43] := zat_of zP_61 rfl
theorem zi_61_41 : zat 61 41 42 (.iconst 1) [] := zat_of zP_61 rfl
theorem zi_61_42 : zat 61 42 43 (.goto 4) [44] := zat_of zP_61 rfl
theorem zi_61_43 : zat 61 43 44 (.iconst 0) [] := zat_of zP_61 rfl
theorem zi_61_44 : zat 61 44 45 (.ireturn) [] := zat_of zP_61 rfl
theorem zP_62 : zP 62 = zk_62 := rfl
theorem zi_62_0 : zat 62 0 1 (.aload_n 0) [] := zat_of zP_62 rfl
theorem zi_62_1 : zat 62 1 2 (.iconst 0) [] := zat_of zP_62 rfl
theorem zi_62_2 : zat 62 2 3 (.aload_n 1) [] := zat_of zP_62 rfl
theorem zi_62_3 : zat 62 3 4 (.iload_n 2) [] := zat_of zP_62 rfl
theorem zi_62_4 : zat 62 4 5 (.iload_n 3) [] := zat_of zP_62 rfl
theorem zi_62_5 : zat 62 5 6 (.invokevirtual 62) [15, 333, 221, 222] := zat_of zP_62 rfl
theorem zi_62_6 : zat 62 6 7 (.iconst 1) [] := zat_of zP_62 rfl
theorem zi_62_7 : zat 62 7 8 (.isub) [] := zat_of zP_62 rfl
theorem zi_62_8 : zat 62 8 9 (.invokevirtual 47) [64, 315, 317, 3] := zat_of zP_62 rfl
theorem zi_62_9 : zat 62 9 10 (.istore 4) [] := zat_of zP_62 rfl
theorem zi_62_10 : zat 62 10 11 (.iload 4) [] := zat_of zP_62 rfl
theorem zi_62_11 : zat 62 11 12 (.ifCond .ge 5) [14] := zat_of zP_62 rfl
theorem zi_62_12 : zat 62 12 13 (.iconst 0) [] := zat_of zP_62 rfl
theorem zi_62_13 : zat 62 13 14 (.ireturn) [] := zat_of zP_62 rfl
theorem zi_62_14 : zat 62 14 15 (.aload_n 1) [] := zat_of zP_62 rfl
theorem zi_62_15 : zat 62 15 16 (.iload_n 2) [] := zat_of zP_62 rfl
theorem zi_62_16 : zat 62 16 17 (.iload_n 3) [] := zat_of zP_62 rfl
theorem zi_62_17 : zat 62 17 18 (.iload 4) [] := zat_of zP_62 rfl
theorem zi_62_18 : zat 62 18 19 (.invokevirtual 65) [17, 334, 202, 203] := zat_of zP_62 rfl
theorem zi_62_19 : zat 62 19 20 (.iconst 1) [] := zat_of zP_62 rfl
theorem zi_62_20 : zat 62 20 21 (.ireturn) [] := zat_of zP_62 rfl
theorem zP_63 : zP 63 = zk_63 := rfl
theorem zi_63_0 : zat 63 0 1 (.aload_n 0) [] := zat_of zP_63 rfl
theorem zi_63_1 : zat 63 1 2 (.bipush 112) [] := zat_of zP_63 rfl
theorem zi_63_2 : zat 63 2 3 (.invokevirtual 33) [65, 324, 326, 5] := zat_of zP_63 rfl
theorem zi_63_3 : zat 63 3 4 (.ifCond .eq 7) [6] := zat_of zP_63 rfl
theorem zi_63_4 : zat 63 4 5 (.iconst 1) [] := zat_of zP_63 rfl
theorem zi_63_5 : zat 63 5 6 (.goto 30) [19] := zat_of zP_63 rfl
theorem zi_63_6 : zat 63 6 7 (.aload_n 0) [] := zat_of zP_63 rfl
theorem zi_63_7 : zat 63 7 8 (.bipush 115) [] := zat_of zP_63 rfl
theorem zi_63_8 : zat 63 8 9 (.invokevirtual 33) [65, 324, 326, 5] := zat_of zP_63 rfl
theorem zi_63_9 : zat 63 9 10 (.ifCond .eq 7) [12] := zat_of zP_63 rfl
theorem zi_63_10 : zat 63 10 11 (.iconst 2) [] := zat_of zP_63 rfl
theorem zi_63_11 : zat 63 11 12 (.goto 17) [19] := zat_of zP_63 rfl
theorem zi_63_12 : zat 63 12 13 (.aload_n 0) [] := zat_of zP_63 rfl
theorem zi_63_13 : zat 63 13 14 (.bipush 104) [] := zat_of zP_63 rfl
theorem zi_63_14 : zat 63 14 15 (.invokevirtual 33) [65, 324, 326, 5] := zat_of zP_63 rfl
theorem zi_63_15 : zat 63 15 16 (.ifCond .eq 7) [18] := zat_of zP_63 rfl
theorem zi_63_16 : zat 63 16 17 (.iconst 3) [] := zat_of zP_63 rfl
theorem zi_63_17 : zat 63 17 18 (.goto 4) [19] := zat_of zP_63 rfl
theorem zi_63_18 : zat 63 18 19 (.iconst 0) [] := zat_of zP_63 rfl
theorem zi_63_19 : zat 63 19 20 (.ireturn) [] := zat_of zP_63 rfl
theorem zP_64 : zP 64 = zk_64 := rfl
theorem zi_64_0 : zat 64 0 1 (.aload_n 0) [] := zat_of zP_64 rfl
theorem zi_64_1 : zat 64 1 2 (.getfield 23) [2, 2, 124] := zat_of zP_64 rfl
theorem zi_64_2 : zat 64 2 3 (.aload_n 0) [] := zat_of zP_64 rfl
theorem zi_64_3 : zat 64 3 4 (.getfield 15) [2, 1, 123] := zat_of zP_64 rfl
theorem zi_64_4 : zat 64 4 5 (.if_icmp .ge 20) [13] := zat_of zP_64 rfl
theorem zi_64_5 : zat 64 5 6 (.aload_n 0) [] := zat_of zP_64 rfl
theorem zi_64_6 : zat 64 6 7 (.getfield 9) [2, 0, 122] := zat_of zP_64 rfl
theorem zi_64_7 : zat 64 7 8 (.aload_n 0) [] := zat_of zP_64 rfl
theorem zi_64_8 : zat 64 8 9 (.getfield 23) [2, 2, 124] := zat_of zP_64 rfl
theorem zi_64_9 : zat 64 9 10 (.invokestatic 43) [109, 310, 225] := zat_of zP_64 rfl
theorem zi_64_10 : zat 64 10 11 (.bipush 48) [] := zat_of zP_64 rfl
theorem zi_64_11 : zat 64 11 12 (.isub) [] := zat_of zP_64 rfl
theorem zi_64_12 : zat 64 12 13 (.goto 5) [14] := zat_of zP_64 rfl
theorem zi_64_13 : zat 64 13 14 (.bipush (-4)) [] := zat_of zP_64 rfl
theorem zi_64_14 : zat 64 14 15 (.istore_n 3) [] := zat_of zP_64 rfl
theorem zi_64_15 : zat 64 15 16 (.iload_n 3) [] := zat_of zP_64 rfl
theorem zi_64_16 : zat 64 16 17 (.iload_n 1) [] := zat_of zP_64 rfl
theorem zi_64_17 : zat 64 17 18 (.iload_n 2) [] := zat_of zP_64 rfl
theorem zi_64_18 : zat 64 18 19 (.invokestatic 69) [93, 319, 185] := zat_of zP_64 rfl
theorem zi_64_19 : zat 64 19 20 (.ifCond .ne 6) [22] := zat_of zP_64 rfl
theorem zi_64_20 : zat 64 20 21 (.bipush (-4)) [] := zat_of zP_64 rfl
theorem zi_64_21 : zat 64 21 22 (.ireturn) [] := zat_of zP_64 rfl
theorem zi_64_22 : zat 64 22 23 (.aload_n 0) [] := zat_of zP_64 rfl
theorem zi_64_23 : zat 64 23 24 (.invokevirtual 26) [60, 306, 308, 1] := zat_of zP_64 rfl
theorem zi_64_24 : zat 64 24 25 (.iload_n 3) [] := zat_of zP_64 rfl
theorem zi_64_25 : zat 64 25 26 (.ireturn) [] := zat_of zP_64 rfl
theorem zP_65 : zP 65 = zk_65 := rfl
theorem zi_65_0 : zat 65 0 1 (.aload_n 0) [] := zat_of zP_65 rfl
theorem zi_65_1 : zat 65 1 2 (.getfield 23) [2, 2, 124] := zat_of zP_65 rfl
theorem zi_65_2 : zat 65 2 3 (.aload_n 0) [] := zat_of zP_65 rfl
theorem zi_65_3 : zat 65 3 4 (.getfield 15) [2, 1, 123] := zat_of zP_65 rfl
theorem zi_65_4 : zat 65 4 5 (.if_icmp .ge 18) [12] := zat_of zP_65 rfl
theorem zi_65_5 : zat 65 5 6 (.aload_n 0) [] := zat_of zP_65 rfl
theorem zi_65_6 : zat 65 6 7 (.getfield 9) [2, 0, 122] := zat_of zP_65 rfl
theorem zi_65_7 : zat 65 7 8 (.aload_n 0) [] := zat_of zP_65 rfl
theorem zi_65_8 : zat 65 8 9 (.getfield 23) [2, 2, 124] := zat_of zP_65 rfl
theorem zi_65_9 : zat 65 9 10 (.invokestatic 43) [109, 310, 225] := zat_of zP_65 rfl
theorem zi_65_10 : zat 65 10 11 (.iload_n 1) [] := zat_of zP_65 rfl
theorem zi_65_11 : zat 65 11 12 (.if_icmp .eq 5) [14] := zat_of zP_65 rfl
theorem zi_65_12 : zat 65 12 13 (.iconst 0) [] := zat_of zP_65 rfl
theorem zi_65_13 : zat 65 13 14 (.ireturn) [] := zat_of zP_65 rfl
theorem zi_65_14 : zat 65 14 15 (.aload_n 0) [] := zat_of zP_65 rfl
theorem zi_65_15 : zat 65 15 16 (.invokevirtual 26) [60, 306, 308, 1] := zat_of zP_65 rfl
theorem zi_65_16 : zat 65 16 17 (.iconst 1) [] := zat_of zP_65 rfl
theorem zi_65_17 : zat 65 17 18 (.ireturn) [] := zat_of zP_65 rfl
theorem zP_66 : zP 66 = zk_66 := rfl
theorem zi_66_0 : zat 66 0 1 (.iload_n 1) [] := zat_of zP_66 rfl
theorem zi_66_1 : zat 66 1 2 (.iconst 0) [] := zat_of zP_66 rfl
theorem zi_66_2 : zat 66 2 3 (.iconst 3) [] := zat_of zP_66 rfl
theorem zi_66_3 : zat 66 3 4 (.invokestatic 46) [93, 184, 185] := zat_of zP_66 rfl
theorem zi_66_4 : zat 66 4 5 (.ifCond .eq 17) [11] := zat_of zP_66 rfl
theorem zi_66_5 : zat 66 5 6 (.iload_n 2) [] := zat_of zP_66 rfl
theorem zi_66_6 : zat 66 6 7 (.invokestatic 50) [94, 187, 188] := zat_of zP_66 rfl
theorem zi_66_7 : zat 66 7 8 (.ifCond .eq 10) [11] := zat_of zP_66 rfl
theorem zi_66_8 : zat 66 8 9 (.iload_n 3) [] := zat_of zP_66 rfl
theorem zi_66_9 : zat 66 9 10 (.invokestatic 50) [94, 187, 188] := zat_of zP_66 rfl
theorem zi_66_10 : zat 66 10 11 (.ifCond .ne 5) [13] := zat_of zP_66 rfl
theorem zi_66_11 : zat 66 11 12 (.iconst (-1)) [] := zat_of zP_66 rfl
theorem zi_66_12 : zat 66 12 13 (.ireturn) [] := zat_of zP_66 rfl
theorem zi_66_13 : zat 66 13 14 (.aload_n 0) [] := zat_of zP_66 rfl
theorem zi_66_14 : zat 66 14 15 (.getfield 10) [3, 0, 152] := zat_of zP_66 rfl
theorem zi_66_15 : zat 66 15 16 (.invokevirtual 54) [8, 190, 191, 192] := zat_of zP_66 rfl
theorem zi_66_16 : zat 66 16 17 (.ifCond .eq 8) [19] := zat_of zP_66 rfl
theorem zi_66_17 : zat 66 17 18 (.bipush (-3)) [] := zat_of zP_66 rfl
theorem zi_66_18 : zat 66 18 19 (.goto 13) [25] := zat_of zP_66 rfl
theorem zi_66_19 : zat 66 19 20 (.aload_n 0) [] := zat_of zP_66 rfl
theorem zi_66_20 : zat 66 20 21 (.getfield 10) [3, 0, 152] := zat_of zP_66 rfl
theorem zi_66_21 : zat 66 21 22 (.iload_n 1) [] := zat_of zP_66 rfl
theorem zi_66_22 : zat 66 22 23 (.iload_n 2) [] := zat_of zP_66 rfl
theorem zi_66_23 : zat 66 23 24 (.iload_n 3) [] := zat_of zP_66 rfl
theorem zi_66_24 : zat 66 24 25 (.invokevirtual 58) [9, 194, 195, 196] := zat_of zP_66 rfl
theorem zi_66_25 : zat 66 25 26 (.ireturn) [] := zat_of zP_66 rfl
theorem zP_67 : zP 67 = zk_67 := rfl
theorem zi_67_0 : zat 67 0 1 (.aload_n 0) [] := zat_of zP_67 rfl
theorem zi_67_1 : zat 67 1 2 (.getfield 10) [3, 0, 152] := zat_of zP_67 rfl
theorem zi_67_2 : zat 67 2 3 (.iload_n 1) [] := zat_of zP_67 rfl
theorem zi_67_3 : zat 67 3 4 (.invokevirtual 62) [12, 213, 214, 215] := zat_of zP_67 rfl
theorem zi_67_4 : zat 67 4 5 (.ifCond .eq 29) [19] := zat_of zP_67 rfl
theorem zi_67_5 : zat 67 5 6 (.iload_n 2) [] := zat_of zP_67 rfl
theorem zi_67_6 : zat 67 6 7 (.invokestatic 65) [95, 217, 218] := zat_of zP_67 rfl
theorem zi_67_7 : zat 67 7 8 (.ifCond .eq 22) [19] := zat_of zP_67 rfl
theorem zi_67_8 : zat 67 8 9 (.iload_n 3) [] := zat_of zP_67 rfl
theorem zi_67_9 : zat 67 9 10 (.iconst 0) [] := zat_of zP_67 rfl
theorem zi_67_10 : zat 67 10 11 (.aload_n 0) [] := zat_of zP_67 rfl
theorem zi_67_11 : zat 67 11 12 (.getfield 10) [3, 0, 152] := zat_of zP_67 rfl
theorem zi_67_12 : zat 67 12 13 (.iload_n 1) [] := zat_of zP_67 rfl
theorem zi_67_13 : zat 67 13 14 (.iload_n 2) [] := zat_of zP_67 rfl
theorem zi_67_14 : zat 67 14 15 (.invokevirtual 68) [15, 220, 221, 222] := zat_of zP_67 rfl
theorem zi_67_15 : zat 67 15 16 (.iconst 1) [] := zat_of zP_67 rfl
theorem zi_67_16 : zat 67 16 17 (.isub) [] := zat_of zP_67 rfl
theorem zi_67_17 : zat 67 17 18 (.invokestatic 46) [93, 184, 185] := zat_of zP_67 rfl
theorem zi_67_18 : zat 67 18 19 (.ifCond .ne 5) [21] := zat_of zP_67 rfl
theorem zi_67_19 : zat 67 19 20 (.iconst (-1)) [] := zat_of zP_67 rfl
theorem zi_67_20 : zat 67 20 21 (.ireturn) [] := zat_of zP_67 rfl
theorem zi_67_21 : zat 67 21 22 (.aload_n 0) [] := zat_of zP_67 rfl
theorem zi_67_22 : zat 67 22 23 (.getfield 10) [3, 0, 152] := zat_of zP_67 rfl
theorem zi_67_23 : zat 67 23 24 (.iload_n 1) [] := zat_of zP_67 rfl
theorem zi_67_24 : zat 67 24 25 (.iload_n 2) [] := zat_of zP_67 rfl
theorem zi_67_25 : zat 67 25 26 (.invokevirtual 72) [16, 227, 228, 229] := zat_of zP_67 rfl
theorem zi_67_26 : zat 67 26 27 (.istore 4) [] := zat_of zP_67 rfl
theorem zi_67_27 : zat 67 27 28 (.aload_n 0) [] := zat_of zP_67 rfl
theorem zi_67_28 : zat 67 28 29 (.getfield 10) [3, 0, 152] := zat_of zP_67 rfl
theorem zi_67_29 : zat 67 29 30 (.iload_n 1) [] := zat_of zP_67 rfl
theorem zi_67_30 : zat 67 30 31 (.iload_n 2) [] := zat_of zP_67 rfl
theorem zi_67_31 : zat 67 31 32 (.iload_n 3) [] := zat_of zP_67 rfl
theorem zi_67_32 : zat 67 32 33 (.invokevirtual 75) [17, 231, 202, 203] := zat_of zP_67 rfl
theorem zi_67_33 : zat 67 33 34 (.iload 4) [] := zat_of zP_67 rfl
theorem zi_67_34 : zat 67 34 35 (.ireturn) [] := zat_of zP_67 rfl
theorem zP_68 : zP 68 = zk_68 := rfl
theorem zi_68_0 : zat 68 0 1 (.aload_n 0) [] := zat_of zP_68 rfl
theorem zi_68_1 : zat 68 1 2 (.getfield 10) [3, 0, 152] := zat_of zP_68 rfl
theorem zi_68_2 : zat 68 2 3 (.iload_n 1) [] := zat_of zP_68 rfl
theorem zi_68_3 : zat 68 3 4 (.invokevirtual 62) [12, 213, 214, 215] := zat_of zP_68 rfl
theorem zi_68_4 : zat 68 4 5 (.ifCond .ne 5) [7] := zat_of zP_68 rfl
theorem zi_68_5 : zat 68 5 6 (.iconst (-1)) [] := zat_of zP_68 rfl
theorem zi_68_6 : zat 68 6 7 (.ireturn) [] := zat_of zP_68 rfl
theorem zi_68_7 : zat 68 7 8 (.iload_n 2) [] := zat_of zP_68 rfl
theorem zi_68_8 : zat 68 8 9 (.tableswitch 106 0 7 #[46, 55, 55, 67, 67, 79, 88, 97]) [45, 9, 14, 14, 22, 22, 30, 35, 40, 46] := zat_of zP_68 rfl
theorem zi_68_9 : zat 68 9 10 (.aload_n 0) [] := zat_of zP_68 rfl
theorem zi_68_10 : zat 68 10 11 (.getfield 10) [3, 0, 152] := zat_of zP_68 rfl
theorem zi_68_11 : zat 68 11 12 (.iload_n 1) [] := zat_of zP_68 rfl
theorem zi_68_12 : zat 68 12 13 (.invokevirtual 79) [14, 236, 237, 238] := zat_of zP_68 rfl
theorem zi_68_13 : zat 68 13 14 (.ireturn) [] := zat_of zP_68 rfl
theorem zi_68_14 : zat 68 14 15 (.aload_n 0) [] := zat_of zP_68 rfl
theorem zi_68_15 : zat 68 15 16 (.getfield 10) [3, 0, 152] := zat_of zP_68 rfl
theorem zi_68_16 : zat 68 16 17 (.iload_n 1) [] := zat_of zP_68 rfl
theorem zi_68_17 : zat 68 17 18 (.iload_n 2) [] := zat_of zP_68 rfl
theorem zi_68_18 : zat 68 18 19 (.iconst 1) [] := zat_of zP_68 rfl
theorem zi_68_19 : zat 68 19 20 (.isub) [] := zat_of zP_68 rfl
theorem zi_68_20 : zat 68 20 21 (.invokevirtual 68) [15, 220, 221, 222] := zat_of zP_68 rfl
theorem zi_68_21 : zat 68 21 22 (.ireturn) [] := zat_of zP_68 rfl
theorem zi_68_22 : zat 68 22 23 (.aload_n 0) [] := zat_of zP_68 rfl
theorem zi_68_23 : zat 68 23 24 (.getfield 10) [3, 0, 152] := zat_of zP_68 rfl
theorem zi_68_24 : zat 68 24 25 (.iload_n 1) [] := zat_of zP_68 rfl
theorem zi_68_25 : zat 68 25 26 (.iload_n 2) [] := zat_of zP_68 rfl
theorem zi_68_26 : zat 68 26 27 (.iconst 3) [] := zat_of zP_68 rfl
theorem zi_68_27 : zat 68 27 28 (.isub) [] := zat_of zP_68 rfl
theorem zi_68_28 : zat 68 28 29 (.invokevirtual 72) [16, 227, 228, 229] := zat_of zP_68 rfl
theorem zi_68_29 : zat 68 29 30 (.ireturn) [] := zat_of zP_68 rfl
theorem zi_68_30 : zat 68 30 31 (.aload_n 0) [] := zat_of zP_68 rfl
theorem zi_68_31 : zat 68 31 32 (.getfield 10) [3, 0, 152] := zat_of zP_68 rfl
theorem zi_68_32 : zat 68 32 33 (.iload_n 1) [] := zat_of zP_68 rfl
theorem zi_68_33 : zat 68 33 34 (.invokevirtual 83) [22, 240, 241, 242] := zat_of zP_68 rfl
theorem zi_68_34 : zat 68 34 35 (.ireturn) [] := zat_of zP_68 rfl
theorem zi_68_35 : zat 68 35 36 (.aload_n 0) [] := zat_of zP_68 rfl
theorem zi_68_36 : zat 68 36 37 (.getfield 10) [3, 0, 152] := zat_of zP_68 rfl
theorem zi_68_37 : zat 68 37 38 (.iload_n 1) [] := zat_of zP_68 rfl
theorem zi_68_38 : zat 68 38 39 (.invokevirtual 86) [24, 244, 245, 246] := zat_of zP_68 rfl
theorem zi_68_39 : zat 68 39 40 (.ireturn) [] := zat_of zP_68 rfl
theorem zi_68_40 : zat 68 40 41 (.aload_n 0) [] := zat_of zP_68 rfl
theorem zi_68_41 : zat 68 41 42 (.getfield 10) [3, 0, 152] := zat_of zP_68 rfl
theorem zi_68_42 : zat 68 42 43 (.iload_n 1) [] := zat_of zP_68 rfl
theorem zi_68_43 : zat 68 43 44 (.invokevirtual 89) [18, 248, 249, 250] := zat_of zP_68 rfl
theorem zi_68_44 : zat 68 44 45 (.ireturn) [] := zat_of zP_68 rfl
theorem zi_68_45 : zat 68 45 46 (.iconst (-1)) [] := zat_of zP_68 rfl
theorem zi_68_46 : zat 68 46 47 (.ireturn) [] := zat_of zP_68 rfl
theorem zP_69 : zP 69 = zk_69 := rfl
theorem zi_69_0 : zat 69 0 1 (.aload_n 0) [] := zat_of zP_69 rfl
theorem zi_69_1 : zat 69 1 2 (.getfield 10) [3, 0, 152] := zat_of zP_69 rfl
theorem zi_69_2 : zat 69 2 3 (.iload_n 1) [] := zat_of zP_69 rfl
theorem zi_69_3 : zat 69 3 4 (.invokevirtual 62) [12, 213, 214, 215] := zat_of zP_69 rfl
theorem zi_69_4 : zat 69 4 5 (.ifCond .eq 12) [10] := zat_of zP_69 rfl
theorem zi_69_5 : zat 69 5 6 (.iload_n 2) [] := zat_of zP_69 rfl
theorem zi_69_6 : zat 69 6 7 (.iconst (-1)) [] := zat_of zP_69 rfl
theorem zi_69_7 : zat 69 7 8 (.iconst 1) [] := zat_of zP_69 rfl
theorem zi_69_8 : zat 69 8 9 (.invokestatic 46) [93, 184, 185] := zat_of zP_69 rfl
theorem zi_69_9 : zat 69 9 10 (.ifCond .ne 5) [12] := zat_of zP_69 rfl
theorem zi_69_10 : zat 69 10 11 (.iconst (-1)) [] := zat_of zP_69 rfl
theorem zi_69_11 : zat 69 11 12 (.ireturn) [] := zat_of zP_69 rfl
theorem zi_69_12 : zat 69 12 13 (.aload_n 0) [] := zat_of zP_69 rfl
theorem zi_69_13 : zat 69 13 14 (.getfield 10) [3, 0, 152] := zat_of zP_69 rfl
theorem zi_69_14 : zat 69 14 15 (.iload_n 1) [] := zat_of zP_69 rfl
theorem zi_69_15 : zat 69 15 16 (.invokevirtual 92) [23, 256, 257, 258] := zat_of zP_69 rfl
theorem zi_69_16 : zat 69 16 17 (.ifCond .eq 6) [19] := zat_of zP_69 rfl
theorem zi_69_17 : zat 69 17 18 (.bipush (-2)) [] := zat_of zP_69 rfl
theorem zi_69_18 : zat 69 18 19 (.ireturn) [] := zat_of zP_69 rfl
theorem zi_69_19 : zat 69 19 20 (.aload_n 0) [] := zat_of zP_69 rfl
theorem zi_69_20 : zat 69 20 21 (.getfield 10) [3, 0, 152] := zat_of zP_69 rfl
theorem zi_69_21 : zat 69 21 22 (.iload_n 1) [] := zat_of zP_69 rfl
theorem zi_69_22 : zat 69 22 23 (.invokevirtual 89) [18, 248, 249, 250] := zat_of zP_69 rfl
theorem zi_69_23 : zat 69 23 24 (.istore_n 3) [] := zat_of zP_69 rfl
theorem zi_69_24 : zat 69 24 25 (.aload_n 0) [] := zat_of zP_69 rfl
theorem zi_69_25 : zat 69 25 26 (.getfield 10) [3, 0, 152] := zat_of zP_69 rfl
theorem zi_69_26 : zat 69 26 27 (.iload_n 1) [] := zat_of zP_69 rfl
theorem zi_69_27 : zat 69 27 28 (.iload_n 2) [] := zat_of zP_69 rfl
theorem zi_69_28 : zat 69 28 29 (.ifCond .ge 8) [31] := zat_of zP_69 rfl
theorem zi_69_29 : zat 69 29 30 (.bipush (-4)) [] := zat_of zP_69 rfl
theorem zi_69_30 : zat 69 30 31 (.goto 4) [32] := zat_of zP_69 rfl
theorem zi_69_31 : zat 69 31 32 (.iload_n 2) [] := zat_of zP_69 rfl
theorem zi_69_32 : zat 69 32 33 (.invokevirtual 95) [19, 261, 262, 263] := zat_of zP_69 rfl
theorem zi_69_33 : zat 69 33 34 (.iload_n 3) [] := zat_of zP_69 rfl
theorem zi_69_34 : zat 69 34 35 (.ireturn) [] := zat_of zP_69 rfl
theorem zP_70 : zP 70 = zk_70 := rfl
theorem zi_70_0 : zat 70 0 1 (.iload_n 3) [] := zat_of zP_70 rfl
theorem zi_70_1 : zat 70 1 2 (.iconst 1) [] := zat_of zP_70 rfl
theorem zi_70_2 : zat 70 2 3 (.bipush 8) [] := zat_of zP_70 rfl
theorem zi_70_3 : zat 70 3 4 (.invokestatic 46) [93, 184, 185] := zat_of zP_70 rfl
theorem zi_70_4 : zat 70 4 5 (.ifCond .ne 5) [7] := zat_of zP_70 rfl
theorem zi_70_5 : zat 70 5 6 (.iconst (-1)) [] := zat_of zP_70 rfl
theorem zi_70_6 : zat 70 6 7 (.ireturn) [] := zat_of zP_70 rfl
theorem zi_70_7 : zat 70 7 8 (.iconst 0) [] := zat_of zP_70 rfl
theorem zi_70_8 : zat 70 8 9 (.istore 4) [] := zat_of zP_70 rfl
theorem zi_70_9 : zat 70 9 10 (.iload 4) [] := zat_of zP_70 rfl
theorem zi_70_10 : zat 70 10 11 (.iload_n 3) [] := zat_of zP_70 rfl
theorem zi_70_11 : zat 70 11 12 (.if_icmp .ge 27) [23] := zat_of zP_70 rfl
theorem zi_70_12 : zat 70 12 13 (.lload_n 1) [] := zat_of zP_70 rfl
theorem zi_70_13 : zat 70 13 14 (.iload 4) [] := zat_of zP_70 rfl
theorem zi_70_14 : zat 70 14 15 (.invokestatic 99) [98, 269, 270] := zat_of zP_70 rfl
theorem zi_70_15 : zat 70 15 16 (.bipush 32) [] := zat_of zP_70 rfl
theorem zi_70_16 : zat 70 16 17 (.bipush 126) [] := zat_of zP_70 rfl
theorem zi_70_17 : zat 70 17 18 (.invokestatic 46) [93, 184, 185] := zat_of zP_70 rfl
theorem zi_70_18 : zat 70 18 19 (.ifCond .ne 5) [21] := zat_of zP_70 rfl
theorem zi_70_19 : zat 70 19 20 (.iconst (-1)) [] := zat_of zP_70 rfl
theorem zi_70_20 : zat 70 20 21 (.ireturn) [] := zat_of zP_70 rfl
theorem zi_70_21 : zat 70 21 22 (.iinc 4 1) [] := zat_of zP_70 rfl
theorem zi_70_22 : zat 70 22 23 (.goto (-27)) [9] := zat_of zP_70 rfl
theorem zi_70_23 : zat 70 23 24 (.aload_n 0) [] := zat_of zP_70 rfl
theorem zi_70_24 : zat 70 24 25 (.getfield 28) [3, 5, 157] := zat_of zP_70 rfl
theorem zi_70_25 : zat 70 25 26 (.invokevirtual 103) [56, 272, 273, 274] := zat_of zP_70 rfl
theorem zi_70_26 : zat 70 26 27 (.iload_n 3) [] := zat_of zP_70 rfl
theorem zi_70_27 : zat 70 27 28 (.iadd) [] := zat_of zP_70 rfl
theorem zi_70_28 : zat 70 28 29 (.bipush 80) [] := zat_of zP_70 rfl
theorem zi_70_29 : zat 70 29 30 (.if_icmp .le 6) [32] := zat_of zP_70 rfl
theorem zi_70_30 : zat 70 30 31 (.bipush (-3)) [] := zat_of zP_70 rfl
theorem zi_70_31 : zat 70 31 32 (.ireturn) [] := zat_of zP_70 rfl
theorem zi_70_32 : zat 70 32 33 (.iload_n 3) [] := zat_of zP_70 rfl
theorem zi_70_33 : zat 70 33 34 (.iconst 1) [] := zat_of zP_70 rfl
theorem zi_70_34 : zat 70 34 35 (.isub) [] := zat_of zP_70 rfl
theorem zi_70_35 : zat 70 35 36 (.istore 4) [] := zat_of zP_70 rfl
theorem zi_70_36 : zat 70 36 37 (.iload 4) [] := zat_of zP_70 rfl
theorem zi_70_37 : zat 70 37 38 (.ifCond .lt 22) [46] := zat_of zP_70 rfl
theorem zi_70_38 : zat 70 38 39 (.aload_n 0) [] := zat_of zP_70 rfl
theorem zi_70_39 : zat 70 39 40 (.getfield 28) [3, 5, 157] := zat_of zP_70 rfl
theorem zi_70_40 : zat 70 40 41 (.lload_n 1) [] := zat_of zP_70 rfl
theorem zi_70_41 : zat 70 41 42 (.iload 4) [] := zat_of zP_70 rfl
theorem zi_70_42 : zat 70 42 43 (.invokestatic 99) [98, 269, 270] := zat_of zP_70 rfl
theorem zi_70_43 : zat 70 43 44 (.invokevirtual 107) [57, 276, 277, 278] := zat_of zP_70 rfl
theorem zi_70_44 : zat 70 44 45 (.iinc 4 (-1)) [] := zat_of zP_70 rfl
theorem zi_70_45 : zat 70 45 46 (.goto (-21)) [36] := zat_of zP_70 rfl
theorem zi_70_46 : zat 70 46 47 (.aload_n 0) [] := zat_of zP_70 rfl
theorem zi_70_47 : zat 70 47 48 (.getfield 28) [3, 5, 157] := zat_of zP_70 rfl
theorem zi_70_48 : zat 70 48 49 (.invokevirtual 103) [56, 272, 273, 274] := zat_of zP_70 rfl
theorem zi_70_49 : zat 70 49 50 (.ireturn) [] := zat_of zP_70 rfl
theorem zP_71 : zP 71 = zk_71 := rfl
theorem zi_71_0 : zat 71 0 1 (.aload_n 0) [] := zat_of zP_71 rfl
theorem zi_71_1 : zat 71 1 2 (.getfield 19) [3, 3, 155] := zat_of zP_71 rfl
theorem zi_71_2 : zat 71 2 3 (.aload_n 0) [] := zat_of zP_71 rfl
theorem zi_71_3 : zat 71 3 4 (.getfield 10) [3, 0, 152] := zat_of zP_71 rfl
theorem zi_71_4 : zat 71 4 5 (.invokevirtual 111) [6, 285, 286, 287] := zat_of zP_71 rfl
theorem zi_71_5 : zat 71 5 6 (.aload_n 0) [] := zat_of zP_71 rfl
theorem zi_71_6 : zat 71 6 7 (.getfield 19) [3, 3, 155] := zat_of zP_71 rfl
theorem zi_71_7 : zat 71 7 8 (.invokevirtual 115) [7, 298, 299, 300] := zat_of zP_71 rfl
theorem zi_71_8 : zat 71 8 9 (.aload_n 0) [] := zat_of zP_71 rfl
theorem zi_71_9 : zat 71 9 10 (.getfield 28) [3, 5, 157] := zat_of zP_71 rfl
theorem zi_71_10 : zat 71 10 11 (.aload_n 0) [] := zat_of zP_71 rfl
theorem zi_71_11 : zat 71 11 12 (.getfield 19) [3, 3, 155] := zat_of zP_71 rfl
theorem zi_71_12 : zat 71 12 13 (.invokevirtual 118) [59, 302, 303, 304] := zat_of zP_71 rfl
theorem zi_71_13 : zat 71 13 14 (.istore_n 1) [] := zat_of zP_71 rfl
theorem zi_71_14 : zat 71 14 15 (.aload_n 0) [] := zat_of zP_71 rfl
theorem zi_71_15 : zat 71 15 16 (.getfield 28) [3, 5, 157] := zat_of zP_71 rfl
theorem zi_71_16 : zat 71 16 17 (.invokevirtual 122) [58, 339, 340, 341] := zat_of zP_71 rfl
theorem zi_71_17 : zat 71 17 18 (.iload_n 1) [] := zat_of zP_71 rfl
theorem zi_71_18 : zat 71 18 19 (.ifCond .le 14) [24] := zat_of zP_71 rfl
theorem zi_71_19 : zat 71 19 20 (.aload_n 0) [] := zat_of zP_71 rfl
theorem zi_71_20 : zat 71 20 21 (.getfield 10) [3, 0, 152] := zat_of zP_71 rfl
theorem zi_71_21 : zat 71 21 22 (.aload_n 0) [] := zat_of zP_71 rfl
theorem zi_71_22 : zat 71 22 23 (.getfield 19) [3, 3, 155] := zat_of zP_71 rfl
theorem zi_71_23 : zat 71 23 24 (.invokevirtual 111) [6, 285, 286, 287] := zat_of zP_71 rfl
theorem zi_71_24 : zat 71 24 25 (.iload_n 1) [] := zat_of zP_71 rfl
theorem zi_71_25 : zat 71 25 26 (.ireturn) [] := zat_of zP_71 rfl
theorem zP_72 : zP 72 = zk_72 := rfl
theorem zi_72_0 : zat 72 0 1 (.iload_n 1) [] := zat_of zP_72 rfl
theorem zi_72_1 : zat 72 1 2 (.tableswitch 109 0 7 #[47, 55, 63, 63, 74, 74, 85, 93]) [36, 2, 6, 10, 10, 17, 17, 24, 28, 47] := zat_of zP_72 rfl
theorem zi_72_2 : zat 72 2 3 (.aload_n 0) [] := zat_of zP_72 rfl
theorem zi_72_3 : zat 72 3 4 (.getfield 10) [3, 0, 152] := zat_of zP_72 rfl
theorem zi_72_4 : zat 72 4 5 (.invokevirtual 125) [11, 347, 336, 337] := zat_of zP_72 rfl
theorem zi_72_5 : zat 72 5 6 (.ireturn) [] := zat_of zP_72 rfl
theorem zi_72_6 : zat 72 6 7 (.aload_n 0) [] := zat_of zP_72 rfl
theorem zi_72_7 : zat 72 7 8 (.getfield 10) [3, 0, 152] := zat_of zP_72 rfl
theorem zi_72_8 : zat 72 8 9 (.invokevirtual 128) [26, 348, 349, 350] := zat_of zP_72 rfl
theorem zi_72_9 : zat 72 9 10 (.ireturn) [] := zat_of zP_72 rfl
theorem zi_72_10 : zat 72 10 11 (.aload_n 0) [] := zat_of zP_72 rfl
theorem zi_72_11 : zat 72 11 12 (.getfield 10) [3, 0, 152] := zat_of zP_72 rfl
theorem zi_72_12 : zat 72 12 13 (.iload_n 1) [] := zat_of zP_72 rfl
theorem zi_72_13 : zat 72 13 14 (.iconst 2) [] := zat_of zP_72 rfl
theorem zi_72_14 : zat 72 14 15 (.isub) [] := zat_of zP_72 rfl
theorem zi_72_15 : zat 72 15 16 (.invokevirtual 131) [20, 352, 353, 354] := zat_of zP_72 rfl
theorem zi_72_16 : zat 72 16 17 (.ireturn) [] := zat_of zP_72 rfl
theorem zi_72_17 : zat 72 17 18 (.aload_n 0) [] := zat_of zP_72 rfl
theorem zi_72_18 : zat 72 18 19 (.getfield 10) [3, 0, 152] := zat_of zP_72 rfl
theorem zi_72_19 : zat 72 19 20 (.iload_n 1) [] := zat_of zP_72 rfl
theorem zi_72_20 : zat 72 20 21 (.iconst 4) [] := zat_of zP_72 rfl
theorem zi_72_21 : zat 72 21 22 (.isub) [] := zat_of zP_72 rfl
theorem zi_72_22 : zat 72 22 23 (.invokevirtual 134) [21, 357, 358, 359] := zat_of zP_72 rfl
theorem zi_72_23 : zat 72 23 24 (.ireturn) [] := zat_of zP_72 rfl
theorem zi_72_24 : zat 72 24 25 (.aload_n 0) [] := zat_of zP_72 rfl
theorem zi_72_25 : zat 72 25 26 (.getfield 10) [3, 0, 152] := zat_of zP_72 rfl
theorem zi_72_26 : zat 72 26 27 (.invokevirtual 137) [39, 361, 362, 363] := zat_of zP_72 rfl
theorem zi_72_27 : zat 72 27 28 (.ireturn) [] := zat_of zP_72 rfl
theorem zi_72_28 : zat 72 28 29 (.aload_n 0) [] := zat_of zP_72 rfl
theorem zi_72_29 : zat 72 29 30 (.getfield 10) [3, 0, 152] := zat_of zP_72 rfl
theorem zi_72_30 : zat 72 30 31 (.invokevirtual 140) [28, 370, 371, 372] := zat_of zP_72 rfl
theorem zi_72_31 : zat 72 31 32 (.ifCond .eq 7) [34] := zat_of zP_72 rfl
theorem zi_72_32 : zat 72 32 33 (.iconst 1) [] := zat_of zP_72 rfl
theorem zi_72_33 : zat 72 33 34 (.goto 4) [35] := zat_of zP_72 rfl
theorem zi_72_34 : zat 72 34 35 (.iconst 0) [] := zat_of zP_72 rfl
theorem zi_72_35 : zat 72 35 36 (.ireturn) [] := zat_of zP_72 rfl
theorem zi_72_36 : zat 72 36 37 (.iconst (-1)) [] := zat_of zP_72 rfl
theorem zi_72_37 : zat 72 37 38 (.ireturn) [] := zat_of zP_72 rfl
theorem zP_73 : zP 73 = zk_73 := rfl
theorem zi_73_0 : zat 73 0 1 (.aload_n 0) [] := zat_of zP_73 rfl
theorem zi_73_1 : zat 73 1 2 (.getfield 10) [3, 0, 152] := zat_of zP_73 rfl
theorem zi_73_2 : zat 73 2 3 (.iload_n 1) [] := zat_of zP_73 rfl
theorem zi_73_3 : zat 73 3 4 (.invokevirtual 62) [12, 213, 214, 215] := zat_of zP_73 rfl
theorem zi_73_4 : zat 73 4 5 (.ifCond .eq 10) [8] := zat_of zP_73 rfl
theorem zi_73_5 : zat 73 5 6 (.iload_n 2) [] := zat_of zP_73 rfl
theorem zi_73_6 : zat 73 6 7 (.invokestatic 65) [95, 217, 218] := zat_of zP_73 rfl
theorem zi_73_7 : zat 73 7 8 (.ifCond .ne 5) [10] := zat_of zP_73 rfl
theorem zi_73_8 : zat 73 8 9 (.iconst (-1)) [] := zat_of zP_73 rfl
theorem zi_73_9 : zat 73 9 10 (.ireturn) [] := zat_of zP_73 rfl
theorem zi_73_10 : zat 73 10 11 (.aload_n 0) [] := zat_of zP_73 rfl
theorem zi_73_11 : zat 73 11 12 (.getfield 10) [3, 0, 152] := zat_of zP_73 rfl
theorem zi_73_12 : zat 73 12 13 (.iload_n 1) [] := zat_of zP_73 rfl
theorem zi_73_13 : zat 73 13 14 (.invokevirtual 92) [23, 256, 257, 258] := zat_of zP_73 rfl
theorem zi_73_14 : zat 73 14 15 (.ifCond .ne 13) [19] := zat_of zP_73 rfl
theorem zi_73_15 : zat 73 15 16 (.aload_n 0) [] := zat_of zP_73 rfl
theorem zi_73_16 : zat 73 16 17 (.getfield 10) [3, 0, 152] := zat_of zP_73 rfl
theorem zi_73_17 : zat 73 17 18 (.invokevirtual 140) [28, 370, 371, 372] := zat_of zP_73 rfl
theorem zi_73_18 : zat 73 18 19 (.ifCond .eq 6) [21] := zat_of zP_73 rfl
theorem zi_73_19 : zat 73 19 20 (.bipush (-2)) [] := zat_of zP_73 rfl
theorem zi_73_20 : zat 73 20 21 (.ireturn) [] := zat_of zP_73 rfl
theorem zi_73_21 : zat 73 21 22 (.aload_n 0) [] := zat_of zP_73 rfl
theorem zi_73_22 : zat 73 22 23 (.getfield 10) [3, 0, 152] := zat_of zP_73 rfl
theorem zi_73_23 : zat 73 23 24 (.iload_n 1) [] := zat_of zP_73 rfl
theorem zi_73_24 : zat 73 24 25 (.iload_n 2) [] := zat_of zP_73 rfl
theorem zi_73_25 : zat 73 25 26 (.invokevirtual 143) [34, 378, 379, 380] := zat_of zP_73 rfl
theorem zi_73_26 : zat 73 26 27 (.ifCond .eq 7) [29] := zat_of zP_73 rfl
theorem zi_73_27 : zat 73 27 28 (.iconst 1) [] := zat_of zP_73 rfl
theorem zi_73_28 : zat 73 28 29 (.goto 4) [30] := zat_of zP_73 rfl
theorem zi_73_29 : zat 73 29 30 (.iconst 0) [] := zat_of zP_73 rfl
theorem zi_73_30 : zat 73 30 31 (.ireturn) [] := zat_of zP_73 rfl
theorem zP_74 : zP 74 = zk_74 := rfl
theorem zi_74_0 : zat 74 0 1 (.aload_n 0) [] := zat_of zP_74 rfl
theorem zi_74_1 : zat 74 1 2 (.iload_n 1) [] := zat_of zP_74 rfl
theorem zi_74_2 : zat 74 2 3 (.iload_n 2) [] := zat_of zP_74 rfl
theorem zi_74_3 : zat 74 3 4 (.invokevirtual 147) [73, 397, 375, 376] := zat_of zP_74 rfl
theorem zi_74_4 : zat 74 4 5 (.istore_n 3) [] := zat_of zP_74 rfl
theorem zi_74_5 : zat 74 5 6 (.iload_n 3) [] := zat_of zP_74 rfl
theorem zi_74_6 : zat 74 6 7 (.ifCond .ge 5) [9] := zat_of zP_74 rfl
theorem zi_74_7 : zat 74 7 8 (.iload_n 3) [] := zat_of zP_74 rfl
theorem zi_74_8 : zat 74 8 9 (.ireturn) [] := zat_of zP_74 rfl
theorem zi_74_9 : zat 74 9 10 (.iload_n 3) [] := zat_of zP_74 rfl
theorem zi_74_10 : zat 74 10 11 (.ifCond .ne 8) [13] := zat_of zP_74 rfl
theorem zi_74_11 : zat 74 11 12 (.bipush (-4)) [] := zat_of zP_74 rfl
theorem zi_74_12 : zat 74 12 13 (.goto 12) [18] := zat_of zP_74 rfl
theorem zi_74_13 : zat 74 13 14 (.aload_n 0) [] := zat_of zP_74 rfl
theorem zi_74_14 : zat 74 14 15 (.getfield 10) [3, 0, 152] := zat_of zP_74 rfl
theorem zi_74_15 : zat 74 15 16 (.iload_n 1) [] := zat_of zP_74 rfl
theorem zi_74_16 : zat 74 16 17 (.iload_n 2) [] := zat_of zP_74 rfl
theorem zi_74_17 : zat 74 17 18 (.invokevirtual 150) [37, 398, 399, 400] := zat_of zP_74 rfl
theorem zi_74_18 : zat 74 18 19 (.ireturn) [] := zat_of zP_74 rfl
theorem zP_75 : zP 75 = zk_75 := rfl
theorem zi_75_0 : zat 75 0 1 (.iload_n 1) [] := zat_of zP_75 rfl
theorem zi_75_1 : zat 75 1 2 (.iconst 1) [] := zat_of zP_75 rfl
theorem zi_75_2 : zat 75 2 3 (.bipush 12) [] := zat_of zP_75 rfl
theorem zi_75_3 : zat 75 3 4 (.invokestatic 46) [93, 184, 185] := zat_of zP_75 rfl
theorem zi_75_4 : zat 75 4 5 (.ifCond .ne 5) [7] := zat_of zP_75 rfl
theorem zi_75_5 : zat 75 5 6 (.iconst (-1)) [] := zat_of zP_75 rfl
theorem zi_75_6 : zat 75 6 7 (.ireturn) [] := zat_of zP_75 rfl
theorem zi_75_7 : zat 75 7 8 (.iload_n 1) [] := zat_of zP_75 rfl
theorem zi_75_8 : zat 75 8 9 (.aload_n 0) [] := zat_of zP_75 rfl
theorem zi_75_9 : zat 75 9 10 (.getfield 10) [3, 0, 152] := zat_of zP_75 rfl
theorem zi_75_10 : zat 75 10 11 (.invokevirtual 128) [26, 348, 349, 350] := zat_of zP_75 rfl
theorem zi_75_11 : zat 75 11 12 (.if_icmp .le 6) [14] := zat_of zP_75 rfl
theorem zi_75_12 : zat 75 12 13 (.bipush (-2)) [] := zat_of zP_75 rfl
theorem zi_75_13 : zat 75 13 14 (.ireturn) [] := zat_of zP_75 rfl
theorem zi_75_14 : zat 75 14 15 (.aload_n 0) [] := zat_of zP_75 rfl
theorem zi_75_15 : zat 75 15 16 (.getfield 10) [3, 0, 152] := zat_of zP_75 rfl
theorem zi_75_16 : zat 75 16 17 (.iload_n 1) [] := zat_of zP_75 rfl
theorem zi_75_17 : zat 75 17 18 (.invokevirtual 153) [40, 455, 456, 457] := zat_of zP_75 rfl
theorem zi_75_18 : zat 75 18 19 (.aload_n 0) [] := zat_of zP_75 rfl
theorem zi_75_19 : zat 75 19 20 (.getfield 10) [3, 0, 152] := zat_of zP_75 rfl
theorem zi_75_20 : zat 75 20 21 (.invokevirtual 128) [26, 348, 349, 350] := zat_of zP_75 rfl
theorem zi_75_21 : zat 75 21 22 (.ireturn) [] := zat_of zP_75 rfl
theorem zP_76 : zP 76 = zk_76 := rfl
theorem zi_76_0 : zat 76 0 1 (.iload_n 1) [] := zat_of zP_76 rfl
theorem zi_76_1 : zat 76 1 2 (.ifCond .eq 16) [8] := zat_of zP_76 rfl
theorem zi_76_2 : zat 76 2 3 (.aload_n 0) [] := zat_of zP_76 rfl
theorem zi_76_3 : zat 76 3 4 (.getfield 10) [3, 0, 152] := zat_of zP_76 rfl
theorem zi_76_4 : zat 76 4 5 (.invokevirtual 156) [36, 463, 464, 465] := zat_of zP_76 rfl
theorem zi_76_5 : zat 76 5 6 (.ifCond .ne 6) [8] := zat_of zP_76 rfl
theorem zi_76_6 : zat 76 6 7 (.bipush (-2)) [] := zat_of zP_76 rfl
theorem zi_76_7 : zat 76 7 8 (.ireturn) [] := zat_of zP_76 rfl
theorem zi_76_8 : zat 76 8 9 (.aload_n 0) [] := zat_of zP_76 rfl
theorem zi_76_9 : zat 76 9 10 (.getfield 10) [3, 0, 152] := zat_of zP_76 rfl
theorem zi_76_10 : zat 76 10 11 (.invokevirtual 140) [28, 370, 371, 372] := zat_of zP_76 rfl
theorem zi_76_11 : zat 76 11 12 (.ifCond .eq 7) [14] := zat_of zP_76 rfl
theorem zi_76_12 : zat 76 12 13 (.iconst 1) [] := zat_of zP_76 rfl
theorem zi_76_13 : zat 76 13 14 (.goto 4) [15] := zat_of zP_76 rfl
theorem zi_76_14 : zat 76 14 15 (.iconst 0) [] := zat_of zP_76 rfl
theorem zi_76_15 : zat 76 15 16 (.istore_n 2) [] := zat_of zP_76 rfl
theorem zi_76_16 : zat 76 16 17 (.aload_n 0) [] := zat_of zP_76 rfl
theorem zi_76_17 : zat 76 17 18 (.getfield 10) [3, 0, 152] := zat_of zP_76 rfl
theorem zi_76_18 : zat 76 18 19 (.iload_n 1) [] := zat_of zP_76 rfl
theorem zi_76_19 : zat 76 19 20 (.invokevirtual 159) [29, 467, 468, 469] := zat_of zP_76 rfl
theorem zi_76_20 : zat 76 20 21 (.iload_n 2) [] := zat_of zP_76 rfl
theorem zi_76_21 : zat 76 21 22 (.ireturn) [] := zat_of zP_76 rfl
theorem zP_77 : zP 77 = zk_77 := rfl
theorem zi_77_0 : zat 77 0 1 (.aload_n 0) [] := zat_of zP_77 rfl
theorem zi_77_1 : zat 77 1 2 (.getfield 10) [3, 0, 152] := zat_of zP_77 rfl
theorem zi_77_2 : zat 77 2 3 (.invokevirtual 128) [26, 348, 349, 350] := zat_of zP_77 rfl
theorem zi_77_3 : zat 77 3 4 (.ifCond .ne 8) [6] := zat_of zP_77 rfl
theorem zi_77_4 : zat 77 4 5 (.bipush (-4)) [] := zat_of zP_77 rfl
theorem zi_77_5 : zat 77 5 6 (.goto 17) [12] := zat_of zP_77 rfl
theorem zi_77_6 : zat 77 6 7 (.aload_n 0) [] := zat_of zP_77 rfl
theorem zi_77_7 : zat 77 7 8 (.getfield 10) [3, 0, 152] := zat_of zP_77 rfl
theorem zi_77_8 : zat 77 8 9 (.aload_n 0) [] := zat_of zP_77 rfl
theorem zi_77_9 : zat 77 9 10 (.getfield 10) [3, 0, 152] := zat_of zP_77 rfl
theorem zi_77_10 : zat 77 10 11 (.invokevirtual 163) [43, 475, 403, 404] := zat_of zP_77 rfl
theorem zi_77_11 : zat 77 11 12 (.invokevirtual 166) [44, 476, 415, 416] := zat_of zP_77 rfl
theorem zi_77_12 : zat 77 12 13 (.ireturn) [] := zat_of zP_77 rfl
theorem zP_78 : zP 78 = zk_78 := rfl
theorem zi_78_0 : zat 78 0 1 (.iload_n 1) [] := zat_of zP_78 rfl
theorem zi_78_1 : zat 78 1 2 (.bipush (-99)) [] := zat_of zP_78 rfl
theorem zi_78_2 : zat 78 2 3 (.bipush 99) [] := zat_of zP_78 rfl
theorem zi_78_3 : zat 78 3 4 (.invokestatic 46) [93, 184, 185] := zat_of zP_78 rfl
theorem zi_78_4 : zat 78 4 5 (.ifCond .ne 5) [7] := zat_of zP_78 rfl
theorem zi_78_5 : zat 78 5 6 (.iconst (-1)) [] := zat_of zP_78 rfl
theorem zi_78_6 : zat 78 6 7 (.ireturn) [] := zat_of zP_78 rfl
theorem zi_78_7 : zat 78 7 8 (.aload_n 0) [] := zat_of zP_78 rfl
theorem zi_78_8 : zat 78 8 9 (.getfield 10) [3, 0, 152] := zat_of zP_78 rfl
theorem zi_78_9 : zat 78 9 10 (.invokevirtual 128) [26, 348, 349, 350] := zat_of zP_78 rfl
theorem zi_78_10 : zat 78 10 11 (.ifCond .ne 6) [13] := zat_of zP_78 rfl
theorem zi_78_11 : zat 78 11 12 (.bipush (-4)) [] := zat_of zP_78 rfl
theorem zi_78_12 : zat 78 12 13 (.ireturn) [] := zat_of zP_78 rfl
theorem zi_78_13 : zat 78 13 14 (.iload_n 1) [] := zat_of zP_78 rfl
theorem zi_78_14 : zat 78 14 15 (.ifCond .eq 25) [26] := zat_of zP_78 rfl
theorem zi_78_15 : zat 78 15 16 (.aload_n 0) [] := zat_of zP_78 rfl
theorem zi_78_16 : zat 78 16 17 (.getfield 10) [3, 0, 152] := zat_of zP_78 rfl
theorem zi_78_17 : zat 78 17 18 (.iload_n 1) [] := zat_of zP_78 rfl
theorem zi_78_18 : zat 78 18 19 (.ifCond .ge 7) [21] := zat_of zP_78 rfl
theorem zi_78_19 : zat 78 19 20 (.iconst (-1)) [] := zat_of zP_78 rfl
theorem zi_78_20 : zat 78 20 21 (.goto 4) [22] := zat_of zP_78 rfl
theorem zi_78_21 : zat 78 21 22 (.iconst 1) [] := zat_of zP_78 rfl
theorem zi_78_22 : zat 78 22 23 (.invokevirtual 166) [44, 476, 415, 416] := zat_of zP_78 rfl
theorem zi_78_23 : zat 78 23 24 (.ifCond .eq 6) [26] := zat_of zP_78 rfl
theorem zi_78_24 : zat 78 24 25 (.bipush (-2)) [] := zat_of zP_78 rfl
theorem zi_78_25 : zat 78 25 26 (.ireturn) [] := zat_of zP_78 rfl
theorem zi_78_26 : zat 78 26 27 (.aload_n 0) [] := zat_of zP_78 rfl
theorem zi_78_27 : zat 78 27 28 (.getfield 10) [3, 0, 152] := zat_of zP_78 rfl
theorem zi_78_28 : zat 78 28 29 (.iload_n 1) [] := zat_of zP_78 rfl
theorem zi_78_29 : zat 78 29 30 (.invokevirtual 169) [46, 481, 423, 424] := zat_of zP_78 rfl
theorem zi_78_30 : zat 78 30 31 (.aload_n 0) [] := zat_of zP_78 rfl
theorem zi_78_31 : zat 78 31 32 (.getfield 10) [3, 0, 152] := zat_of zP_78 rfl
theorem zi_78_32 : zat 78 32 33 (.invokevirtual 137) [39, 361, 362, 363] := zat_of zP_78 rfl
theorem zi_78_33 : zat 78 33 34 (.ireturn) [] := zat_of zP_78 rfl
theorem zP_79 : zP 79 = zk_79 := rfl
theorem zi_79_0 : zat 79 0 1 (.aload_n 0) [] := zat_of zP_79 rfl
theorem zi_79_1 : zat 79 1 2 (.invokevirtual 172) [100, 486, 488, 13] := zat_of zP_79 rfl
theorem zi_79_2 : zat 79 2 3 (.istore_n 1) [] := zat_of zP_79 rfl
theorem zi_79_3 : zat 79 3 4 (.iload_n 1) [] := zat_of zP_79 rfl
theorem zi_79_4 : zat 79 4 5 (.ifCond .eq 7) [7] := zat_of zP_79 rfl
theorem zi_79_5 : zat 79 5 6 (.iload_n 1) [] := zat_of zP_79 rfl
theorem zi_79_6 : zat 79 6 7 (.goto 10) [10] := zat_of zP_79 rfl
theorem zi_79_7 : zat 79 7 8 (.aload_n 0) [] := zat_of zP_79 rfl
theorem zi_79_8 : zat 79 8 9 (.getfield 10) [3, 0, 152] := zat_of zP_79 rfl
theorem zi_79_9 : zat 79 9 10 (.invokevirtual 175) [49, 490, 491, 492] := zat_of zP_79 rfl
theorem zi_79_10 : zat 79 10 11 (.ireturn) [] := zat_of zP_79 rfl
theorem zP_80 : zP 80 = zk_80 := rfl
theorem zi_80_0 : zat 80 0 1 (.aload_n 0) [] := zat_of zP_80 rfl
theorem zi_80_1 : zat 80 1 2 (.invokevirtual 172) [100, 486, 488, 13] := zat_of zP_80 rfl
theorem zi_80_2 : zat 80 2 3 (.istore_n 1) [] := zat_of zP_80 rfl
theorem zi_80_3 : zat 80 3 4 (.iload_n 1) [] := zat_of zP_80 rfl
theorem zi_80_4 : zat 80 4 5 (.ifCond .eq 7) [7] := zat_of zP_80 rfl
theorem zi_80_5 : zat 80 5 6 (.iload_n 1) [] := zat_of zP_80 rfl
theorem zi_80_6 : zat 80 6 7 (.goto 10) [10] := zat_of zP_80 rfl
theorem zi_80_7 : zat 80 7 8 (.aload_n 0) [] := zat_of zP_80 rfl
theorem zi_80_8 : zat 80 8 9 (.getfield 10) [3, 0, 152] := zat_of zP_80 rfl
theorem zi_80_9 : zat 80 9 10 (.invokevirtual 178) [51, 501, 502, 503] := zat_of zP_80 rfl
theorem zi_80_10 : zat 80 10 11 (.ireturn) [] := zat_of zP_80 rfl
theorem zP_81 : zP 81 = zk_81 := rfl
theorem zi_81_0 : zat 81 0 1 (.iload_n 1) [] := zat_of zP_81 rfl
theorem zi_81_1 : zat 81 1 2 (.invokestatic 181) [96, 513, 448] := zat_of zP_81 rfl
theorem zi_81_2 : zat 81 2 3 (.ifCond .eq 12) [8] := zat_of zP_81 rfl
theorem zi_81_3 : zat 81 3 4 (.iload_n 2) [] := zat_of zP_81 rfl
theorem zi_81_4 : zat 81 4 5 (.iconst 0) [] := zat_of zP_81 rfl
theorem zi_81_5 : zat 81 5 6 (.iconst 2) [] := zat_of zP_81 rfl
theorem zi_81_6 : zat 81 6 7 (.invokestatic 46) [93, 184, 185] := zat_of zP_81 rfl
theorem zi_81_7 : zat 81 7 8 (.ifCond .ne 5) [10] := zat_of zP_81 rfl
theorem zi_81_8 : zat 81 8 9 (.iconst (-1)) [] := zat_of zP_81 rfl
theorem zi_81_9 : zat 81 9 10 (.ireturn) [] := zat_of zP_81 rfl
theorem zi_81_10 : zat 81 10 11 (.aload_n 0) [] := zat_of zP_81 rfl
theorem zi_81_11 : zat 81 11 12 (.getfield 10) [3, 0, 152] := zat_of zP_81 rfl
theorem zi_81_12 : zat 81 12 13 (.invokevirtual 140) [28, 370, 371, 372] := zat_of zP_81 rfl
theorem zi_81_13 : zat 81 13 14 (.ifCond .eq 6) [16] := zat_of zP_81 rfl
theorem zi_81_14 : zat 81 14 15 (.bipush (-2)) [] := zat_of zP_81 rfl
theorem zi_81_15 : zat 81 15 16 (.ireturn) [] := zat_of zP_81 rfl
theorem zi_81_16 : zat 81 16 17 (.bipush (-4)) [] := zat_of zP_81 rfl
theorem zi_81_17 : zat 81 17 18 (.istore_n 3) [] := zat_of zP_81 rfl
theorem zi_81_18 : zat 81 18 19 (.iconst 0) [] := zat_of zP_81 rfl
theorem zi_81_19 : zat 81 19 20 (.istore 4) [] := zat_of zP_81 rfl
theorem zi_81_20 : zat 81 20 21 (.iconst 0) [] := zat_of zP_81 rfl
theorem zi_81_21 : zat 81 21 22 (.istore 5) [] := zat_of zP_81 rfl
theorem zi_81_22 : zat 81 22 23 (.iload 5) [] := zat_of zP_81 rfl
theorem zi_81_23 : zat 81 23 24 (.bipush 24) [] := zat_of zP_81 rfl
theorem zi_81_24 : zat 81 24 25 (.if_icmp .ge 51) [48] := zat_of zP_81 rfl
theorem zi_81_25 : zat 81 25 26 (.aload_n 0) [] := zat_of zP_81 rfl
theorem zi_81_26 : zat 81 26 27 (.getfield 10) [3, 0, 152] := zat_of zP_81 rfl
theorem zi_81_27 : zat 81 27 28 (.iload_n 1) [] := zat_of zP_81 rfl
theorem zi_81_28 : zat 81 28 29 (.iload 5) [] := zat_of zP_81 rfl
theorem zi_81_29 : zat 81 29 30 (.invokevirtual 184) [35, 514, 515, 516] := zat_of zP_81 rfl
theorem zi_81_30 : zat 81 30 31 (.ifCond .eq 32) [46] := zat_of zP_81 rfl
theorem zi_81_31 : zat 81 31 32 (.aload_n 0) [] := zat_of zP_81 rfl
theorem zi_81_32 : zat 81 32 33 (.iload_n 1) [] := zat_of zP_81 rfl
theorem zi_81_33 : zat 81 33 34 (.iload 5) [] := zat_of zP_81 rfl
theorem zi_81_34 : zat 81 34 35 (.invokevirtual 187) [101, 520, 522, 15] := zat_of zP_81 rfl
theorem zi_81_35 : zat 81 35 36 (.istore 6) [] := zat_of zP_81 rfl
theorem zi_81_36 : zat 81 36 37 (.iload_n 3) [] := zat_of zP_81 rfl
theorem zi_81_37 : zat 81 37 38 (.bipush (-4)) [] := zat_of zP_81 rfl
theorem zi_81_38 : zat 81 38 39 (.if_icmp .eq 10) [42] := zat_of zP_81 rfl
theorem zi_81_39 : zat 81 39 40 (.iload 6) [] := zat_of zP_81 rfl
theorem zi_81_40 : zat 81 40 41 (.iload 4) [] := zat_of zP_81 rfl
theorem zi_81_41 : zat 81 41 42 (.if_icmp .le 10) [46] := zat_of zP_81 rfl
theorem zi_81_42 : zat 81 42 43 (.iload 5) [] := zat_of zP_81 rfl
theorem zi_81_43 : zat 81 43 44 (.istore_n 3) [] := zat_of zP_81 rfl
theorem zi_81_44 : zat 81 44 45 (.iload 6) [] := zat_of zP_81 rfl
theorem zi_81_45 : zat 81 45 46 (.istore 4) [] := zat_of zP_81 rfl
theorem zi_81_46 : zat 81 46 47 (.iinc 5 1) [] := zat_of zP_81 rfl
theorem zi_81_47 : zat 81 47 48 (.goto (-52)) [22] := zat_of zP_81 rfl
theorem zi_81_48 : zat 81 48 49 (.iload_n 3) [] := zat_of zP_81 rfl
theorem zi_81_49 : zat 81 49 50 (.bipush (-4)) [] := zat_of zP_81 rfl
theorem zi_81_50 : zat 81 50 51 (.if_icmp .ne 6) [53] := zat_of zP_81 rfl
theorem zi_81_51 : zat 81 51 52 (.bipush (-4)) [] := zat_of zP_81 rfl
theorem zi_81_52 : zat 81 52 53 (.ireturn) [] := zat_of zP_81 rfl
theorem zi_81_53 : zat 81 53 54 (.iload_n 2) [] := zat_of zP_81 rfl
theorem zi_81_54 : zat 81 54 55 (.ifCond .ne 9) [59] := zat_of zP_81 rfl
theorem zi_81_55 : zat 81 55 56 (.iload_n 3) [] := zat_of zP_81 rfl
theorem zi_81_56 : zat 81 56 57 (.iconst 2) [] := zat_of zP_81 rfl
theorem zi_81_57 : zat 81 57 58 (.idiv) [] := zat_of zP_81 rfl
theorem zi_81_58 : zat 81 58 59 (.goto 19) [69] := zat_of zP_81 rfl
theorem zi_81_59 : zat 81 59 60 (.iload_n 2) [] := zat_of zP_81 rfl
theorem zi_81_60 : zat 81 60 61 (.iconst 1) [] := zat_of zP_81 rfl
theorem zi_81_61 : zat 81 61 62 (.if_icmp .ne 9) [66] := zat_of zP_81 rfl
theorem zi_81_62 : zat 81 62 63 (.iload_n 3) [] := zat_of zP_81 rfl
theorem zi_81_63 : zat 81 63 64 (.iconst 2) [] := zat_of zP_81 rfl
theorem zi_81_64 : zat 81 64 65 (.irem) [] := zat_of zP_81 rfl
theorem zi_81_65 : zat 81 65 66 (.goto 8) [69] := zat_of zP_81 rfl
theorem zi_81_66 : zat 81 66 67 (.iload 4) [] := zat_of zP_81 rfl
theorem zi_81_67 : zat 81 67 68 (.bipush 100) [] := zat_of zP_81 rfl
theorem zi_81_68 : zat 81 68 69 (.iadd) [] := zat_of zP_81 rfl
theorem zi_81_69 : zat 81 69 70 (.ireturn) [] := zat_of zP_81 rfl
theorem zP_82 : zP 82 = zk_82 := rfl
theorem zi_82_0 : zat 82 0 1 (.aload_n 0) [] := zat_of zP_82 rfl
theorem zi_82_1 : zat 82 1 2 (.getfield 10) [3, 0, 152] := zat_of zP_82 rfl
theorem zi_82_2 : zat 82 2 3 (.iload_n 1) [] := zat_of zP_82 rfl
theorem zi_82_3 : zat 82 3 4 (.invokevirtual 62) [12, 213, 214, 215] := zat_of zP_82 rfl
theorem zi_82_4 : zat 82 4 5 (.ifCond .eq 14) [10] := zat_of zP_82 rfl
theorem zi_82_5 : zat 82 5 6 (.aload_n 0) [] := zat_of zP_82 rfl
theorem zi_82_6 : zat 82 6 7 (.getfield 10) [3, 0, 152] := zat_of zP_82 rfl
theorem zi_82_7 : zat 82 7 8 (.iload_n 1) [] := zat_of zP_82 rfl
theorem zi_82_8 : zat 82 8 9 (.invokevirtual 92) [23, 256, 257, 258] := zat_of zP_82 rfl
theorem zi_82_9 : zat 82 9 10 (.ifCond .ne 5) [12] := zat_of zP_82 rfl
theorem zi_82_10 : zat 82 10 11 (.iconst (-1)) [] := zat_of zP_82 rfl
theorem zi_82_11 : zat 82 11 12 (.ireturn) [] := zat_of zP_82 rfl
theorem zi_82_12 : zat 82 12 13 (.iload_n 2) [] := zat_of zP_82 rfl
theorem zi_82_13 : zat 82 13 14 (.iconst 0) [] := zat_of zP_82 rfl
theorem zi_82_14 : zat 82 14 15 (.aload_n 0) [] := zat_of zP_82 rfl
theorem zi_82_15 : zat 82 15 16 (.getfield 10) [3, 0, 152] := zat_of zP_82 rfl
theorem zi_82_16 : zat 82 16 17 (.iload_n 1) [] := zat_of zP_82 rfl
theorem zi_82_17 : zat 82 17 18 (.aload_n 0) [] := zat_of zP_82 rfl
theorem zi_82_18 : zat 82 18 19 (.getfield 10) [3, 0, 152] := zat_of zP_82 rfl
theorem zi_82_19 : zat 82 19 20 (.iload_n 1) [] := zat_of zP_82 rfl
theorem zi_82_20 : zat 82 20 21 (.invokevirtual 190) [25, 531, 438, 439] := zat_of zP_82 rfl
theorem zi_82_21 : zat 82 21 22 (.invokevirtual 68) [15, 220, 221, 222] := zat_of zP_82 rfl
theorem zi_82_22 : zat 82 22 23 (.iconst 1) [] := zat_of zP_82 rfl
theorem zi_82_23 : zat 82 23 24 (.isub) [] := zat_of zP_82 rfl
theorem zi_82_24 : zat 82 24 25 (.invokestatic 46) [93, 184, 185] := zat_of zP_82 rfl
theorem zi_82_25 : zat 82 25 26 (.ifCond .ne 5) [28] := zat_of zP_82 rfl
theorem zi_82_26 : zat 82 26 27 (.iconst (-1)) [] := zat_of zP_82 rfl
theorem zi_82_27 : zat 82 27 28 (.ireturn) [] := zat_of zP_82 rfl
theorem zi_82_28 : zat 82 28 29 (.aload_n 0) [] := zat_of zP_82 rfl
theorem zi_82_29 : zat 82 29 30 (.invokevirtual 172) [100, 486, 488, 13] := zat_of zP_82 rfl
theorem zi_82_30 : zat 82 30 31 (.istore_n 3) [] := zat_of zP_82 rfl
theorem zi_82_31 : zat 82 31 32 (.iload_n 3) [] := zat_of zP_82 rfl
theorem zi_82_32 : zat 82 32 33 (.ifCond .eq 7) [35] := zat_of zP_82 rfl
theorem zi_82_33 : zat 82 33 34 (.iload_n 3) [] := zat_of zP_82 rfl
theorem zi_82_34 : zat 82 34 35 (.goto 12) [40] := zat_of zP_82 rfl
theorem zi_82_35 : zat 82 35 36 (.aload_n 0) [] := zat_of zP_82 rfl
theorem zi_82_36 : zat 82 36 37 (.getfield 10) [3, 0, 152] := zat_of zP_82 rfl
theorem zi_82_37 : zat 82 37 38 (.iload_n 1) [] := zat_of zP_82 rfl
theorem zi_82_38 : zat 82 38 39 (.iload_n 2) [] := zat_of zP_82 rfl
theorem zi_82_39 : zat 82 39 40 (.invokevirtual 193) [53, 532, 533, 534] := zat_of zP_82 rfl
theorem zi_82_40 : zat 82 40 41 (.ireturn) [] := zat_of zP_82 rfl
theorem zP_83 : zP 83 = zk_83 := rfl
theorem zi_83_0 : zat 83 0 1 (.iload_n 1) [] := zat_of zP_83 rfl
theorem zi_83_1 : zat 83 1 2 (.iconst 1) [] := zat_of zP_83 rfl
theorem zi_83_2 : zat 83 2 3 (.bipush 24) [] := zat_of zP_83 rfl
theorem zi_83_3 : zat 83 3 4 (.invokestatic 46) [93, 184, 185] := zat_of zP_83 rfl
theorem zi_83_4 : zat 83 4 5 (.ifCond .ne 5) [7] := zat_of zP_83 rfl
theorem zi_83_5 : zat 83 5 6 (.iconst (-1)) [] := zat_of zP_83 rfl
theorem zi_83_6 : zat 83 6 7 (.ireturn) [] := zat_of zP_83 rfl
theorem zi_83_7 : zat 83 7 8 (.aload_n 0) [] := zat_of zP_83 rfl
theorem zi_83_8 : zat 83 8 9 (.getfield 10) [3, 0, 152] := zat_of zP_83 rfl
theorem zi_83_9 : zat 83 9 10 (.invokevirtual 140) [28, 370, 371, 372] := zat_of zP_83 rfl
theorem zi_83_10 : zat 83 10 11 (.ifCond .eq 6) [13] := zat_of zP_83 rfl
theorem zi_83_11 : zat 83 11 12 (.bipush (-2)) [] := zat_of zP_83 rfl
theorem zi_83_12 : zat 83 12 13 (.ireturn) [] := zat_of zP_83 rfl
theorem zi_83_13 : zat 83 13 14 (.iconst 0) [] := zat_of zP_83 rfl
theorem zi_83_14 : zat 83 14 15 (.istore_n 2) [] := zat_of zP_83 rfl
theorem zi_83_15 : zat 83 15 16 (.iconst 0) [] := zat_of zP_83 rfl
theorem zi_83_16 : zat 83 16 17 (.istore_n 3) [] := zat_of zP_83 rfl
theorem zi_83_17 : zat 83 17 18 (.iload_n 3) [] := zat_of zP_83 rfl
theorem zi_83_18 : zat 83 18 19 (.iload_n 1) [] := zat_of zP_83 rfl
theorem zi_83_19 : zat 83 19 20 (.if_icmp .ge 25) [30] := zat_of zP_83 rfl
theorem zi_83_20 : zat 83 20 21 (.aload_n 0) [] := zat_of zP_83 rfl
theorem zi_83_21 : zat 83 21 22 (.getfield 10) [3, 0, 152] := zat_of zP_83 rfl
theorem zi_83_22 : zat 83 22 23 (.iload_n 3) [] := zat_of zP_83 rfl
theorem zi_83_23 : zat 83 23 24 (.iconst 2) [] := zat_of zP_83 rfl
theorem zi_83_24 : zat 83 24 25 (.irem) [] := zat_of zP_83 rfl
theorem zi_83_25 : zat 83 25 26 (.invokevirtual 196) [54, 540, 541, 542] := zat_of zP_83 rfl
theorem zi_83_26 : zat 83 26 27 (.ifCond .eq 6) [28] := zat_of zP_83 rfl
theorem zi_83_27 : zat 83 27 28 (.iinc 2 1) [] := zat_of zP_83 rfl
theorem zi_83_28 : zat 83 28 29 (.iinc 3 1) [] := zat_of zP_83 rfl
theorem zi_83_29 : zat 83 29 30 (.goto (-24)) [17] := zat_of zP_83 rfl
theorem zi_83_30 : zat 83 30 31 (.iload_n 2) [] := zat_of zP_83 rfl
theorem zi_83_31 : zat 83 31 32 (.ireturn) [] := zat_of zP_83 rfl
theorem zP_84 : zP 84 = zk_84 := rfl
theorem zi_84_0 : zat 84 0 1 (.iload_n 1) [] := zat_of zP_84 rfl
theorem zi_84_1 : zat 84 1 2 (.ifCond .ge 5) [4] := zat_of zP_84 rfl
theorem zi_84_2 : zat 84 2 3 (.iconst (-1)) [] := zat_of zP_84 rfl
theorem zi_84_3 : zat 84 3 4 (.ireturn) [] := zat_of zP_84 rfl
theorem zi_84_4 : zat 84 4 5 (.aload_n 0) [] := zat_of zP_84 rfl
theorem zi_84_5 : zat 84 5 6 (.getfield 10) [3, 0, 152] := zat_of zP_84 rfl
theorem zi_84_6 : zat 84 6 7 (.invokevirtual 199) [30, 557, 558, 559] := zat_of zP_84 rfl
theorem zi_84_7 : zat 84 7 8 (.istore_n 2) [] := zat_of zP_84 rfl
theorem zi_84_8 : zat 84 8 9 (.aload_n 0) [] := zat_of zP_84 rfl
theorem zi_84_9 : zat 84 9 10 (.getfield 10) [3, 0, 152] := zat_of zP_84 rfl
theorem zi_84_10 : zat 84 10 11 (.iload_n 1) [] := zat_of zP_84 rfl
theorem zi_84_11 : zat 84 11 12 (.invokevirtual 202) [31, 561, 562, 563] := zat_of zP_84 rfl
theorem zi_84_12 : zat 84 12 13 (.iload_n 2) [] := zat_of zP_84 rfl
theorem zi_84_13 : zat 84 13 14 (.ireturn) [] := zat_of zP_84 rfl
theorem zP_85 : zP 85 = zk_85 := rfl
theorem zi_85_0 : zat 85 0 1 (.aload_n 0) [] := zat_of zP_85 rfl
theorem zi_85_1 : zat 85 1 2 (.getfield 16) [3, 1, 153] := zat_of zP_85 rfl
theorem zi_85_2 : zat 85 2 3 (.aload_n 0) [] := zat_of zP_85 rfl
theorem zi_85_3 : zat 85 3 4 (.getfield 10) [3, 0, 152] := zat_of zP_85 rfl
theorem zi_85_4 : zat 85 4 5 (.invokevirtual 111) [6, 285, 286, 287] := zat_of zP_85 rfl
theorem zi_85_5 : zat 85 5 6 (.aload_n 0) [] := zat_of zP_85 rfl
theorem zi_85_6 : zat 85 6 7 (.iconst 1) [] := zat_of zP_85 rfl
theorem zi_85_7 : zat 85 7 8 (.putfield 205) [3, 2, 154] := zat_of zP_85 rfl
theorem zi_85_8 : zat 85 8 9 (.iconst 1) [] := zat_of zP_85 rfl
theorem zi_85_9 : zat 85 9 10 (.ireturn) [] := zat_of zP_85 rfl
theorem zP_86 : zP 86 = zk_86 := rfl
theorem zi_86_0 : zat 86 0 1 (.aload_n 0) [] := zat_of zP_86 rfl
theorem zi_86_1 : zat 86 1 2 (.getfield 205) [3, 2, 154] := zat_of zP_86 rfl
theorem zi_86_2 : zat 86 2 3 (.ifCond .ne 6) [5] := zat_of zP_86 rfl
theorem zi_86_3 : zat 86 3 4 (.bipush (-4)) [] := zat_of zP_86 rfl
theorem zi_86_4 : zat 86 4 5 (.ireturn) [] := zat_of zP_86 rfl
theorem zi_86_5 : zat 86 5 6 (.aload_n 0) [] := zat_of zP_86 rfl
theorem zi_86_6 : zat 86 6 7 (.getfield 10) [3, 0, 152] := zat_of zP_86 rfl
theorem zi_86_7 : zat 86 7 8 (.aload_n 0) [] := zat_of zP_86 rfl
theorem zi_86_8 : zat 86 8 9 (.getfield 16) [3, 1, 153] := zat_of zP_86 rfl
theorem zi_86_9 : zat 86 9 10 (.invokevirtual 111) [6, 285, 286, 287] := zat_of zP_86 rfl
theorem zi_86_10 : zat 86 10 11 (.iconst 1) [] := zat_of zP_86 rfl
theorem zi_86_11 : zat 86 11 12 (.ireturn) [] := zat_of zP_86 rfl
theorem zP_87 : zP 87 = zk_87 := rfl
theorem zi_87_0 : zat 87 0 1 (.aload_n 0) [] := zat_of zP_87 rfl
theorem zi_87_1 : zat 87 1 2 (.iload_n 1) [] := zat_of zP_87 rfl
theorem zi_87_2 : zat 87 2 3 (.invokevirtual 209) [99, 577, 579, 17] := zat_of zP_87 rfl
theorem zi_87_3 : zat 87 3 4 (.astore 5) [] := zat_of zP_87 rfl
theorem zi_87_4 : zat 87 4 5 (.aload 5) [] := zat_of zP_87 rfl
theorem zi_87_5 : zat 87 5 6 (.ifnull 21) [14] := zat_of zP_87 rfl
theorem zi_87_6 : zat 87 6 7 (.iload_n 2) [] := zat_of zP_87 rfl
theorem zi_87_7 : zat 87 7 8 (.invokestatic 213) [97, 581, 582] := zat_of zP_87 rfl
theorem zi_87_8 : zat 87 8 9 (.ifCond .eq 14) [14] := zat_of zP_87 rfl
theorem zi_87_9 : zat 87 9 10 (.iload 4) [] := zat_of zP_87 rfl
theorem zi_87_10 : zat 87 10 11 (.iconst 1) [] := zat_of zP_87 rfl
theorem zi_87_11 : zat 87 11 12 (.bipush 12) [] := zat_of zP_87 rfl
theorem zi_87_12 : zat 87 12 13 (.invokestatic 46) [93, 184, 185] := zat_of zP_87 rfl
theorem zi_87_13 : zat 87 13 14 (.ifCond .ne 5) [16] := zat_of zP_87 rfl
theorem zi_87_14 : zat 87 14 15 (.iconst (-1)) [] := zat_of zP_87 rfl
theorem zi_87_15 : zat 87 15 16 (.ireturn) [] := zat_of zP_87 rfl
theorem zi_87_16 : zat 87 16 17 (.aload 5) [] := zat_of zP_87 rfl
theorem zi_87_17 : zat 87 17 18 (.iload_n 2) [] := zat_of zP_87 rfl
theorem zi_87_18 : zat 87 18 19 (.iload_n 3) [] := zat_of zP_87 rfl
theorem zi_87_19 : zat 87 19 20 (.iconst 2) [] := zat_of zP_87 rfl
theorem zi_87_20 : zat 87 20 21 (.iload 4) [] := zat_of zP_87 rfl
theorem zi_87_21 : zat 87 21 22 (.imul) [] := zat_of zP_87 rfl
theorem zi_87_22 : zat 87 22 23 (.invokevirtual 216) [3, 584, 585, 586] := zat_of zP_87 rfl
theorem zi_87_23 : zat 87 23 24 (.istore 6) [] := zat_of zP_87 rfl
theorem zi_87_24 : zat 87 24 25 (.iload 6) [] := zat_of zP_87 rfl
theorem zi_87_25 : zat 87 25 26 (.ifCond .eq 6) [28] := zat_of zP_87 rfl
theorem zi_87_26 : zat 87 26 27 (.iload 6) [] := zat_of zP_87 rfl
theorem zi_87_27 : zat 87 27 28 (.ireturn) [] := zat_of zP_87 rfl
theorem zi_87_28 : zat 87 28 29 (.iconst 0) [] := zat_of zP_87 rfl
theorem zi_87_29 : zat 87 29 30 (.istore 7) [] := zat_of zP_87 rfl
theorem zi_87_30 : zat 87 30 31 (.iload 7) [] := zat_of zP_87 rfl
theorem zi_87_31 : zat 87 31 32 (.iload 4) [] := zat_of zP_87 rfl
theorem zi_87_32 : zat 87 32 33 (.if_icmp .ge 52) [59] := zat_of zP_87 rfl
theorem zi_87_33 : zat 87 33 34 (.aload_n 0) [] := zat_of zP_87 rfl
theorem zi_87_34 : zat 87 34 35 (.getfield 10) [3, 0, 152] := zat_of zP_87 rfl
theorem zi_87_35 : zat 87 35 36 (.aload 5) [] := zat_of zP_87 rfl
theorem zi_87_36 : zat 87 36 37 (.iload_n 3) [] := zat_of zP_87 rfl
theorem zi_87_37 : zat 87 37 38 (.iconst 2) [] := zat_of zP_87 rfl
theorem zi_87_38 : zat 87 38 39 (.iload 7) [] := zat_of zP_87 rfl
theorem zi_87_39 : zat 87 39 40 (.imul) [] := zat_of zP_87 rfl
theorem zi_87_40 : zat 87 40 41 (.iadd) [] := zat_of zP_87 rfl
theorem zi_87_41 : zat 87 41 42 (.invokevirtual 219) [4, 588, 589, 590] := zat_of zP_87 rfl
theorem zi_87_42 : zat 87 42 43 (.invokevirtual 62) [12, 213, 214, 215] := zat_of zP_87 rfl
theorem zi_87_43 : zat 87 43 44 (.ifCond .eq 22) [55] := zat_of zP_87 rfl
theorem zi_87_44 : zat 87 44 45 (.aload 5) [] := zat_of zP_87 rfl
theorem zi_87_45 : zat 87 45 46 (.iload_n 3) [] := zat_of zP_87 rfl
theorem zi_87_46 : zat 87 46 47 (.iconst 2) [] := zat_of zP_87 rfl
theorem zi_87_47 : zat 87 47 48 (.iload 7) [] := zat_of zP_87 rfl
theorem zi_87_48 : zat 87 48 49 (.imul) [] := zat_of zP_87 rfl
theorem zi_87_49 : zat 87 49 50 (.iadd) [] := zat_of zP_87 rfl
theorem zi_87_50 : zat 87 50 51 (.iconst 1) [] := zat_of zP_87 rfl
theorem zi_87_51 : zat 87 51 52 (.iadd) [] := zat_of zP_87 rfl
theorem zi_87_52 : zat 87 52 53 (.invokevirtual 219) [4, 588, 589, 590] := zat_of zP_87 rfl
theorem zi_87_53 : zat 87 53 54 (.invokestatic 65) [95, 217, 218] := zat_of zP_87 rfl
theorem zi_87_54 : zat 87 54 55 (.ifCond .ne 6) [57] := zat_of zP_87 rfl
theorem zi_87_55 : zat 87 55 56 (.bipush (-2)) [] := zat_of zP_87 rfl
theorem zi_87_56 : zat 87 56 57 (.ireturn) [] := zat_of zP_87 rfl
theorem zi_87_57 : zat 87 57 58 (.iinc 7 1) [] := zat_of zP_87 rfl
theorem zi_87_58 : zat 87 58 59 (.goto (-53)) [30] := zat_of zP_87 rfl
theorem zi_87_59 : zat 87 59 60 (.aload_n 0) [] := zat_of zP_87 rfl
theorem zi_87_60 : zat 87 60 61 (.aload 5) [] := zat_of zP_87 rfl
theorem zi_87_61 : zat 87 61 62 (.iload_n 3) [] := zat_of zP_87 rfl
theorem zi_87_62 : zat 87 62 63 (.iload 4) [] := zat_of zP_87 rfl
theorem zi_87_63 : zat 87 63 64 (.invokevirtual 222) [102, 593, 595, 18] := zat_of zP_87 rfl
theorem zi_87_64 : zat 87 64 65 (.ireturn) [] := zat_of zP_87 rfl
theorem zP_88 : zP 88 = zk_88 := rfl
theorem zi_88_0 : zat 88 0 1 (.aload_n 0) [] := zat_of zP_88 rfl
theorem zi_88_1 : zat 88 1 2 (.iload_n 2) [] := zat_of zP_88 rfl
theorem zi_88_2 : zat 88 2 3 (.invokevirtual 209) [99, 577, 579, 17] := zat_of zP_88 rfl
theorem zi_88_3 : zat 88 3 4 (.astore 6) [] := zat_of zP_88 rfl
theorem zi_88_4 : zat 88 4 5 (.iload_n 1) [] := zat_of zP_88 rfl
theorem zi_88_5 : zat 88 5 6 (.invokestatic 226) [175, 601, 602] := zat_of zP_88 rfl
theorem zi_88_6 : zat 88 6 7 (.istore 7) [] := zat_of zP_88 rfl
theorem zi_88_7 : zat 88 7 8 (.aload 6) [] := zat_of zP_88 rfl
theorem zi_88_8 : zat 88 8 9 (.ifnull 21) [17] := zat_of zP_88 rfl
theorem zi_88_9 : zat 88 9 10 (.iload_n 3) [] := zat_of zP_88 rfl
theorem zi_88_10 : zat 88 10 11 (.invokestatic 213) [97, 581, 582] := zat_of zP_88 rfl
theorem zi_88_11 : zat 88 11 12 (.ifCond .eq 14) [17] := zat_of zP_88 rfl
theorem zi_88_12 : zat 88 12 13 (.aload_n 0) [] := zat_of zP_88 rfl
theorem zi_88_13 : zat 88 13 14 (.getfield 10) [3, 0, 152] := zat_of zP_88 rfl
theorem zi_88_14 : zat 88 14 15 (.iload_n 1) [] := zat_of zP_88 rfl
theorem zi_88_15 : zat 88 15 16 (.invokevirtual 231) [13, 607, 608, 609] := zat_of zP_88 rfl
theorem zi_88_16 : zat 88 16 17 (.ifCond .ne 5) [19] := zat_of zP_88 rfl
theorem zi_88_17 : zat 88 17 18 (.iconst (-1)) [] := zat_of zP_88 rfl
theorem zi_88_18 : zat 88 18 19 (.ireturn) [] := zat_of zP_88 rfl
theorem zi_88_19 : zat 88 19 20 (.iload 7) [] := zat_of zP_88 rfl
theorem zi_88_20 : zat 88 20 21 (.iconst 2) [] := zat_of zP_88 rfl
theorem zi_88_21 : zat 88 21 22 (.iconst 5) [] := zat_of zP_88 rfl
theorem zi_88_22 : zat 88 22 23 (.invokestatic 46) [93, 184, 185] := zat_of zP_88 rfl
theorem zi_88_23 : zat 88 23 24 (.ifCond .eq 16) [31] := zat_of zP_88 rfl
theorem zi_88_24 : zat 88 24 25 (.iload 5) [] := zat_of zP_88 rfl
theorem zi_88_25 : zat 88 25 26 (.iconst (-1)) [] := zat_of zP_88 rfl
theorem zi_88_26 : zat 88 26 27 (.iload 7) [] := zat_of zP_88 rfl
theorem zi_88_27 : zat 88 27 28 (.iconst 1) [] := zat_of zP_88 rfl
theorem zi_88_28 : zat 88 28 29 (.isub) [] := zat_of zP_88 rfl
theorem zi_88_29 : zat 88 29 30 (.invokestatic 46) [93, 184, 185] := zat_of zP_88 rfl
theorem zi_88_30 : zat 88 30 31 (.ifCond .ne 5) [33] := zat_of zP_88 rfl
theorem zi_88_31 : zat 88 31 32 (.iconst (-1)) [] := zat_of zP_88 rfl
theorem zi_88_32 : zat 88 32 33 (.ireturn) [] := zat_of zP_88 rfl
theorem zi_88_33 : zat 88 33 34 (.aload 6) [] := zat_of zP_88 rfl
theorem zi_88_34 : zat 88 34 35 (.iload_n 3) [] := zat_of zP_88 rfl
theorem zi_88_35 : zat 88 35 36 (.iload 4) [] := zat_of zP_88 rfl
theorem zi_88_36 : zat 88 36 37 (.iconst 2) [] := zat_of zP_88 rfl
theorem zi_88_37 : zat 88 37 38 (.iload 7) [] := zat_of zP_88 rfl
theorem zi_88_38 : zat 88 38 39 (.imul) [] := zat_of zP_88 rfl
theorem zi_88_39 : zat 88 39 40 (.invokevirtual 216) [3, 584, 585, 586] := zat_of zP_88 rfl
theorem zi_88_40 : zat 88 40 41 (.istore 8) [] := zat_of zP_88 rfl
theorem zi_88_41 : zat 88 41 42 (.iload 8) [] := zat_of zP_88 rfl
theorem zi_88_42 : zat 88 42 43 (.ifCond .eq 6) [45] := zat_of zP_88 rfl
theorem zi_88_43 : zat 88 43 44 (.iload 8) [] := zat_of zP_88 rfl
theorem zi_88_44 : zat 88 44 45 (.ireturn) [] := zat_of zP_88 rfl
theorem zi_88_45 : zat 88 45 46 (.aload_n 0) [] := zat_of zP_88 rfl
theorem zi_88_46 : zat 88 46 47 (.iload_n 1) [] := zat_of zP_88 rfl
theorem zi_88_47 : zat 88 47 48 (.iload 7) [] := zat_of zP_88 rfl
theorem zi_88_48 : zat 88 48 49 (.aload 6) [] := zat_of zP_88 rfl
theorem zi_88_49 : zat 88 49 50 (.iload 4) [] := zat_of zP_88 rfl
theorem zi_88_50 : zat 88 50 51 (.invokevirtual 234) [103, 611, 613, 19] := zat_of zP_88 rfl
theorem zi_88_51 : zat 88 51 52 (.istore 9) [] := zat_of zP_88 rfl
theorem zi_88_52 : zat 88 52 53 (.iload 9) [] := zat_of zP_88 rfl
theorem zi_88_53 : zat 88 53 54 (.ifCond .ne 6) [56] := zat_of zP_88 rfl
theorem zi_88_54 : zat 88 54 55 (.bipush (-4)) [] := zat_of zP_88 rfl
theorem zi_88_55 : zat 88 55 56 (.ireturn) [] := zat_of zP_88 rfl
theorem zi_88_56 : zat 88 56 57 (.iload 5) [] := zat_of zP_88 rfl
theorem zi_88_57 : zat 88 57 58 (.ifCond .ge 8) [60] := zat_of zP_88 rfl
theorem zi_88_58 : zat 88 58 59 (.iload 9) [] := zat_of zP_88 rfl
theorem zi_88_59 : zat 88 59 60 (.goto 12) [64] := zat_of zP_88 rfl
theorem zi_88_60 : zat 88 60 61 (.aload_n 0) [] := zat_of zP_88 rfl
theorem zi_88_61 : zat 88 61 62 (.getfield 42) [3, 8, 160] := zat_of zP_88 rfl
theorem zi_88_62 : zat 88 62 63 (.iload 5) [] := zat_of zP_88 rfl
theorem zi_88_63 : zat 88 63 64 (.invokestatic 238) [109, 627, 225] := zat_of zP_88 rfl
theorem zi_88_64 : zat 88 64 65 (.ireturn) [] := zat_of zP_88 rfl
theorem zP_89 : zP 89 = zk_89 := rfl
theorem zi_89_0 : zat 89 0 1 (.aload_n 0) [] := zat_of zP_89 rfl
theorem zi_89_1 : zat 89 1 2 (.iload_n 1) [] := zat_of zP_89 rfl
theorem zi_89_2 : zat 89 2 3 (.invokevirtual 209) [99, 577, 579, 17] := zat_of zP_89 rfl
theorem zi_89_3 : zat 89 3 4 (.astore 4) [] := zat_of zP_89 rfl
theorem zi_89_4 : zat 89 4 5 (.aload 4) [] := zat_of zP_89 rfl
theorem zi_89_5 : zat 89 5 6 (.ifnull 16) [12] := zat_of zP_89 rfl
theorem zi_89_6 : zat 89 6 7 (.iload_n 2) [] := zat_of zP_89 rfl
theorem zi_89_7 : zat 89 7 8 (.invokestatic 213) [97, 581, 582] := zat_of zP_89 rfl
theorem zi_89_8 : zat 89 8 9 (.ifCond .eq 9) [12] := zat_of zP_89 rfl
theorem zi_89_9 : zat 89 9 10 (.iload_n 3) [] := zat_of zP_89 rfl
theorem zi_89_10 : zat 89 10 11 (.bipush 24) [] := zat_of zP_89 rfl
theorem zi_89_11 : zat 89 11 12 (.if_icmp .le 5) [14] := zat_of zP_89 rfl
theorem zi_89_12 : zat 89 12 13 (.iconst (-1)) [] := zat_of zP_89 rfl
theorem zi_89_13 : zat 89 13 14 (.ireturn) [] := zat_of zP_89 rfl
theorem zi_89_14 : zat 89 14 15 (.iload_n 3) [] := zat_of zP_89 rfl
theorem zi_89_15 : zat 89 15 16 (.ifCond .ge 6) [18] := zat_of zP_89 rfl
theorem zi_89_16 : zat 89 16 17 (.bipush (-14)) [] := zat_of zP_89 rfl
theorem zi_89_17 : zat 89 17 18 (.ireturn) [] := zat_of zP_89 rfl
theorem zi_89_18 : zat 89 18 19 (.aload 4) [] := zat_of zP_89 rfl
theorem zi_89_19 : zat 89 19 20 (.iload_n 2) [] := zat_of zP_89 rfl
theorem zi_89_20 : zat 89 20 21 (.iload_n 3) [] := zat_of zP_89 rfl
theorem zi_89_21 : zat 89 21 22 (.invokevirtual 242) [1, 641, 642, 643] := zat_of zP_89 rfl
theorem zi_89_22 : zat 89 22 23 (.iload_n 3) [] := zat_of zP_89 rfl
theorem zi_89_23 : zat 89 23 24 (.ireturn) [] := zat_of zP_89 rfl
theorem zP_90 : zP 90 = zk_90 := rfl
theorem zi_90_0 : zat 90 0 1 (.aload_n 0) [] := zat_of zP_90 rfl
theorem zi_90_1 : zat 90 1 2 (.iload_n 1) [] := zat_of zP_90 rfl
theorem zi_90_2 : zat 90 2 3 (.invokevirtual 209) [99, 577, 579, 17] := zat_of zP_90 rfl
theorem zi_90_3 : zat 90 3 4 (.astore_n 2) [] := zat_of zP_90 rfl
theorem zi_90_4 : zat 90 4 5 (.aload_n 2) [] := zat_of zP_90 rfl
theorem zi_90_5 : zat 90 5 6 (.ifnonnull 5) [8] := zat_of zP_90 rfl
theorem zi_90_6 : zat 90 6 7 (.iconst (-1)) [] := zat_of zP_90 rfl
theorem zi_90_7 : zat 90 7 8 (.ireturn) [] := zat_of zP_90 rfl
theorem zi_90_8 : zat 90 8 9 (.aload_n 2) [] := zat_of zP_90 rfl
theorem zi_90_9 : zat 90 9 10 (.invokevirtual 245) [0, 650, 651, 652] := zat_of zP_90 rfl
theorem zi_90_10 : zat 90 10 11 (.ifCond .eq 8) [13] := zat_of zP_90 rfl
theorem zi_90_11 : zat 90 11 12 (.bipush (-11)) [] := zat_of zP_90 rfl
theorem zi_90_12 : zat 90 12 13 (.goto 7) [15] := zat_of zP_90 rfl
theorem zi_90_13 : zat 90 13 14 (.aload_n 2) [] := zat_of zP_90 rfl
theorem zi_90_14 : zat 90 14 15 (.invokevirtual 248) [2, 654, 655, 656] := zat_of zP_90 rfl
theorem zi_90_15 : zat 90 15 16 (.ireturn) [] := zat_of zP_90 rfl
theorem zP_91 : zP 91 = zk_91 := rfl
theorem zi_91_0 : zat 91 0 1 (.aload_n 0) [] := zat_of zP_91 rfl
theorem zi_91_1 : zat 91 1 2 (.iload_n 1) [] := zat_of zP_91 rfl
theorem zi_91_2 : zat 91 2 3 (.invokevirtual 209) [99, 577, 579, 17] := zat_of zP_91 rfl
theorem zi_91_3 : zat 91 3 4 (.astore 5) [] := zat_of zP_91 rfl
theorem zi_91_4 : zat 91 4 5 (.aload 5) [] := zat_of zP_91 rfl
theorem zi_91_5 : zat 91 5 6 (.ifnull 10) [9] := zat_of zP_91 rfl
theorem zi_91_6 : zat 91 6 7 (.iload_n 2) [] := zat_of zP_91 rfl
theorem zi_91_7 : zat 91 7 8 (.invokestatic 213) [97, 581, 582] := zat_of zP_91 rfl
theorem zi_91_8 : zat 91 8 9 (.ifCond .ne 5) [11] := zat_of zP_91 rfl
theorem zi_91_9 : zat 91 9 10 (.iconst (-1)) [] := zat_of zP_91 rfl
theorem zi_91_10 : zat 91 10 11 (.ireturn) [] := zat_of zP_91 rfl
theorem zi_91_11 : zat 91 11 12 (.aload 5) [] := zat_of zP_91 rfl
theorem zi_91_12 : zat 91 12 13 (.iload_n 2) [] := zat_of zP_91 rfl
theorem zi_91_13 : zat 91 13 14 (.iload_n 3) [] := zat_of zP_91 rfl
theorem zi_91_14 : zat 91 14 15 (.iconst 1) [] := zat_of zP_91 rfl
theorem zi_91_15 : zat 91 15 16 (.invokevirtual 216) [3, 584, 585, 586] := zat_of zP_91 rfl
theorem zi_91_16 : zat 91 16 17 (.istore 6) [] := zat_of zP_91 rfl
theorem zi_91_17 : zat 91 17 18 (.iload 6) [] := zat_of zP_91 rfl
theorem zi_91_18 : zat 91 18 19 (.ifCond .eq 6) [21] := zat_of zP_91 rfl
theorem zi_91_19 : zat 91 19 20 (.iload 6) [] := zat_of zP_91 rfl
theorem zi_91_20 : zat 91 20 21 (.ireturn) [] := zat_of zP_91 rfl
theorem zi_91_21 : zat 91 21 22 (.aload 5) [] := zat_of zP_91 rfl
theorem zi_91_22 : zat 91 22 23 (.iload_n 3) [] := zat_of zP_91 rfl
theorem zi_91_23 : zat 91 23 24 (.iload 4) [] := zat_of zP_91 rfl
theorem zi_91_24 : zat 91 24 25 (.invokevirtual 251) [5, 662, 663, 664] := zat_of zP_91 rfl
theorem zi_91_25 : zat 91 25 26 (.iconst 1) [] := zat_of zP_91 rfl
theorem zi_91_26 : zat 91 26 27 (.ireturn) [] := zat_of zP_91 rfl
theorem zP_92 : zP 92 = zk_92 := rfl
theorem zi_92_0 : zat 92 0 1 (.aload_n 0) [] := zat_of zP_92 rfl
theorem zi_92_1 : zat 92 1 2 (.iload_n 1) [] := zat_of zP_92 rfl
theorem zi_92_2 : zat 92 2 3 (.invokevirtual 209) [99, 577, 579, 17] := zat_of zP_92 rfl
theorem zi_92_3 : zat 92 3 4 (.astore 4) [] := zat_of zP_92 rfl
theorem zi_92_4 : zat 92 4 5 (.aload 4) [] := zat_of zP_92 rfl
theorem zi_92_5 : zat 92 5 6 (.ifnull 10) [9] := zat_of zP_92 rfl
theorem zi_92_6 : zat 92 6 7 (.iload_n 2) [] := zat_of zP_92 rfl
theorem zi_92_7 : zat 92 7 8 (.invokestatic 213) [97, 581, 582] := zat_of zP_92 rfl
theorem zi_92_8 : zat 92 8 9 (.ifCond .ne 5) [11] := zat_of zP_92 rfl
theorem zi_92_9 : zat 92 9 10 (.iconst (-1)) [] := zat_of zP_92 rfl
theorem zi_92_10 : zat 92 10 11 (.ireturn) [] := zat_of zP_92 rfl
theorem zi_92_11 : zat 92 11 12 (.iconst 2) [] := zat_of zP_92 rfl
theorem zi_92_12 : zat 92 12 13 (.aload_n 0) [] := zat_of zP_92 rfl
theorem zi_92_13 : zat 92 13 14 (.getfield 10) [3, 0, 152] := zat_of zP_92 rfl
theorem zi_92_14 : zat 92 14 15 (.invokevirtual 128) [26, 348, 349, 350] := zat_of zP_92 rfl
theorem zi_92_15 : zat 92 15 16 (.imul) [] := zat_of zP_92 rfl
theorem zi_92_16 : zat 92 16 17 (.istore 5) [] := zat_of zP_92 rfl
theorem zi_92_17 : zat 92 17 18 (.aload 4) [] := zat_of zP_92 rfl
theorem zi_92_18 : zat 92 18 19 (.iload_n 2) [] := zat_of zP_92 rfl
theorem zi_92_19 : zat 92 19 20 (.iload_n 3) [] := zat_of zP_92 rfl
theorem zi_92_20 : zat 92 20 21 (.iload 5) [] := zat_of zP_92 rfl
theorem zi_92_21 : zat 92 21 22 (.invokevirtual 216) [3, 584, 585, 586] := zat_of zP_92 rfl
theorem zi_92_22 : zat 92 22 23 (.istore 6) [] := zat_of zP_92 rfl
theorem zi_92_23 : zat 92 23 24 (.iload 6) [] := zat_of zP_92 rfl
theorem zi_92_24 : zat 92 24 25 (.ifCond .eq 6) [27] := zat_of zP_92 rfl
theorem zi_92_25 : zat 92 25 26 (.iload 6) [] := zat_of zP_92 rfl
theorem zi_92_26 : zat 92 26 27 (.ireturn) [] := zat_of zP_92 rfl
theorem zi_92_27 : zat 92 27 28 (.iconst 0) [] := zat_of zP_92 rfl
theorem zi_92_28 : zat 92 28 29 (.istore 7) [] := zat_of zP_92 rfl
theorem zi_92_29 : zat 92 29 30 (.iload 7) [] := zat_of zP_92 rfl
theorem zi_92_30 : zat 92 30 31 (.aload_n 0) [] := zat_of zP_92 rfl
theorem zi_92_31 : zat 92 31 32 (.getfield 10) [3, 0, 152] := zat_of zP_92 rfl
theorem zi_92_32 : zat 92 32 33 (.invokevirtual 128) [26, 348, 349, 350] := zat_of zP_92 rfl
theorem zi_92_33 : zat 92 33 34 (.if_icmp .ge 80) [73] := zat_of zP_92 rfl
theorem zi_92_34 : zat 92 34 35 (.aload_n 0) [] := zat_of zP_92 rfl
theorem zi_92_35 : zat 92 35 36 (.getfield 10) [3, 0, 152] := zat_of zP_92 rfl
theorem zi_92_36 : zat 92 36 37 (.iload 7) [] := zat_of zP_92 rfl
theorem zi_92_37 : zat 92 37 38 (.invokevirtual 254) [27, 670, 366, 367] := zat_of zP_92 rfl
theorem zi_92_38 : zat 92 38 39 (.istore 8) [] := zat_of zP_92 rfl
theorem zi_92_39 : zat 92 39 40 (.aload 4) [] := zat_of zP_92 rfl
theorem zi_92_40 : zat 92 40 41 (.iload_n 3) [] := zat_of zP_92 rfl
theorem zi_92_41 : zat 92 41 42 (.iconst 2) [] := zat_of zP_92 rfl
theorem zi_92_42 : zat 92 42 43 (.iload 7) [] := zat_of zP_92 rfl
theorem zi_92_43 : zat 92 43 44 (.imul) [] := zat_of zP_92 rfl
theorem zi_92_44 : zat 92 44 45 (.iadd) [] := zat_of zP_92 rfl
theorem zi_92_45 : zat 92 45 46 (.aload_n 0) [] := zat_of zP_92 rfl
theorem zi_92_46 : zat 92 46 47 (.getfield 10) [3, 0, 152] := zat_of zP_92 rfl
theorem zi_92_47 : zat 92 47 48 (.iload 8) [] := zat_of zP_92 rfl
theorem zi_92_48 : zat 92 48 49 (.aload_n 0) [] := zat_of zP_92 rfl
theorem zi_92_49 : zat 92 49 50 (.getfield 10) [3, 0, 152] := zat_of zP_92 rfl
theorem zi_92_50 : zat 92 50 51 (.iload 8) [] := zat_of zP_92 rfl
theorem zi_92_51 : zat 92 51 52 (.invokevirtual 86) [24, 244, 245, 246] := zat_of zP_92 rfl
theorem zi_92_52 : zat 92 52 53 (.invokevirtual 72) [16, 227, 228, 229] := zat_of zP_92 rfl
theorem zi_92_53 : zat 92 53 54 (.invokevirtual 251) [5, 662, 663, 664] := zat_of zP_92 rfl
theorem zi_92_54 : zat 92 54 55 (.aload 4) [] := zat_of zP_92 rfl
theorem zi_92_55 : zat 92 55 56 (.iload_n 3) [] := zat_of zP_92 rfl
theorem zi_92_56 : zat 92 56 57 (.iconst 2) [] := zat_of zP_92 rfl
theorem zi_92_57 : zat 92 57 58 (.iload 7) [] := zat_of zP_92 rfl
theorem zi_92_58 : zat 92 58 59 (.imul) [] := zat_of zP_92 rfl
theorem zi_92_59 : zat 92 59 60 (.iadd) [] := zat_of zP_92 rfl
theorem zi_92_60 : zat 92 60 61 (.iconst 1) [] := zat_of zP_92 rfl
theorem zi_92_61 : zat 92 61 62 (.iadd) [] := zat_of zP_92 rfl
theorem zi_92_62 : zat 92 62 63 (.aload_n 0) [] := zat_of zP_92 rfl
theorem zi_92_63 : zat 92 63 64 (.getfield 10) [3, 0, 152] := zat_of zP_92 rfl
theorem zi_92_64 : zat 92 64 65 (.iload 8) [] := zat_of zP_92 rfl
theorem zi_92_65 : zat 92 65 66 (.aload_n 0) [] := zat_of zP_92 rfl
theorem zi_92_66 : zat 92 66 67 (.getfield 10) [3, 0, 152] := zat_of zP_92 rfl
theorem zi_92_67 : zat 92 67 68 (.iload 8) [] := zat_of zP_92 rfl
theorem zi_92_68 : zat 92 68 69 (.invokevirtual 190) [25, 531, 438, 439] := zat_of zP_92 rfl
theorem zi_92_69 : zat 92 69 70 (.invokevirtual 72) [16, 227, 228, 229] := zat_of zP_92 rfl
theorem zi_92_70 : zat 92 70 71 (.invokevirtual 251) [5, 662, 663, 664] := zat_of zP_92 rfl
theorem zi_92_71 : zat 92 71 72 (.iinc 7 1) [] := zat_of zP_92 rfl
theorem zi_92_72 : zat 92 72 73 (.goto (-86)) [29] := zat_of zP_92 rfl
theorem zi_92_73 : zat 92 73 74 (.iload 5) [] := zat_of zP_92 rfl
theorem zi_92_74 : zat 92 74 75 (.ireturn) [] := zat_of zP_92 rfl
theorem zP_93 : zP 93 = zk_93 := rfl
theorem zi_93_0 : zat 93 0 1 (.iload_n 0) [] := zat_of zP_93 rfl
theorem zi_93_1 : zat 93 1 2 (.iload_n 1) [] := zat_of zP_93 rfl
theorem zi_93_2 : zat 93 2 3 (.if_icmp .lt 12) [8] := zat_of zP_93 rfl
theorem zi_93_3 : zat 93 3 4 (.iload_n 0) [] := zat_of zP_93 rfl
theorem zi_93_4 : zat 93 4 5 (.iload_n 2) [] := zat_of zP_93 rfl
theorem zi_93_5 : zat 93 5 6 (.if_icmp .gt 7) [8] := zat_of zP_93 rfl
theorem zi_93_6 : zat 93 6 7 (.iconst 1) [] := zat_of zP_93 rfl
theorem zi_93_7 : zat 93 7 8 (.goto 4) [9] := zat_of zP_93 rfl
theorem zi_93_8 : zat 93 8 9 (.iconst 0) [] := zat_of zP_93 rfl
theorem zi_93_9 : zat 93 9 10 (.ireturn) [] := zat_of zP_93 rfl
theorem zP_94 : zP 94 = zk_94 := rfl
theorem zi_94_0 : zat 94 0 1 (.iload_n 0) [] := zat_of zP_94 rfl
theorem zi_94_1 : zat 94 1 2 (.iconst 3) [] := zat_of zP_94 rfl
theorem zi_94_2 : zat 94 2 3 (.bipush 9) [] := zat_of zP_94 rfl
theorem zi_94_3 : zat 94 3 4 (.invokestatic 46) [93, 184, 185] := zat_of zP_94 rfl
theorem zi_94_4 : zat 94 4 5 (.ireturn) [] := zat_of zP_94 rfl
theorem zP_95 : zP 95 = zk_95 := rfl
theorem zi_95_0 : zat 95 0 1 (.iload_n 0) [] := zat_of zP_95 rfl
theorem zi_95_1 : zat 95 1 2 (.iconst 0) [] := zat_of zP_95 rfl
theorem zi_95_2 : zat 95 2 3 (.iconst 1) [] := zat_of zP_95 rfl
theorem zi_95_3 : zat 95 3 4 (.invokestatic 46) [93, 184, 185] := zat_of zP_95 rfl
theorem zi_95_4 : zat 95 4 5 (.ireturn) [] := zat_of zP_95 rfl
theorem zP_96 : zP 96 = zk_96 := rfl
theorem zi_96_0 : zat 96 0 1 (.iload_n 0) [] := zat_of zP_96 rfl
theorem zi_96_1 : zat 96 1 2 (.iconst 0) [] := zat_of zP_96 rfl
theorem zi_96_2 : zat 96 2 3 (.iconst 1) [] := zat_of zP_96 rfl
theorem zi_96_3 : zat 96 3 4 (.invokestatic 46) [93, 184, 185] := zat_of zP_96 rfl
theorem zi_96_4 : zat 96 4 5 (.ireturn) [] := zat_of zP_96 rfl
theorem zP_97 : zP 97 = zk_97 := rfl
theorem zi_97_0 : zat 97 0 1 (.iload_n 0) [] := zat_of zP_97 rfl
theorem zi_97_1 : zat 97 1 2 (.iconst 0) [] := zat_of zP_97 rfl
theorem zi_97_2 : zat 97 2 3 (.iconst 2) [] := zat_of zP_97 rfl
theorem zi_97_3 : zat 97 3 4 (.invokestatic 46) [93, 184, 185] := zat_of zP_97 rfl
theorem zi_97_4 : zat 97 4 5 (.ireturn) [] := zat_of zP_97 rfl
theorem zP_98 : zP 98 = zk_98 := rfl
theorem zi_98_0 : zat 98 0 1 (.lload_n 0) [] := zat_of zP_98 rfl
theorem zi_98_1 : zat 98 1 2 (.bipush 8) [] := zat_of zP_98 rfl
theorem zi_98_2 : zat 98 2 3 (.iload_n 2) [] := zat_of zP_98 rfl
theorem zi_98_3 : zat 98 3 4 (.imul) [] := zat_of zP_98 rfl
theorem zi_98_4 : zat 98 4 5 (.lushr) [] := zat_of zP_98 rfl
theorem zi_98_5 : zat 98 5 6 (.l2i) [] := zat_of zP_98 rfl
theorem zi_98_6 : zat 98 6 7 (.sipush 255) [] := zat_of zP_98 rfl
theorem zi_98_7 : zat 98 7 8 (.iand) [] := zat_of zP_98 rfl
theorem zi_98_8 : zat 98 8 9 (.ireturn) [] := zat_of zP_98 rfl
theorem zP_99 : zP 99 = zk_99 := rfl
theorem zi_99_0 : zat 99 0 1 (.iload_n 1) [] := zat_of zP_99 rfl
theorem zi_99_1 : zat 99 1 2 (.ifCond .lt 21) [12] := zat_of zP_99 rfl
theorem zi_99_2 : zat 99 2 3 (.iload_n 1) [] := zat_of zP_99 rfl
theorem zi_99_3 : zat 99 3 4 (.aload_n 0) [] := zat_of zP_99 rfl
theorem zi_99_4 : zat 99 4 5 (.getfield 34) [3, 6, 158] := zat_of zP_99 rfl
theorem zi_99_5 : zat 99 5 6 (.arraylength) [] := zat_of zP_99 rfl
theorem zi_99_6 : zat 99 6 7 (.if_icmp .ge 12) [12] := zat_of zP_99 rfl
theorem zi_99_7 : zat 99 7 8 (.aload_n 0) [] := zat_of zP_99 rfl
theorem zi_99_8 : zat 99 8 9 (.getfield 34) [3, 6, 158] := zat_of zP_99 rfl
theorem zi_99_9 : zat 99 9 10 (.iload_n 1) [] := zat_of zP_99 rfl
theorem zi_99_10 : zat 99 10 11 (.aaload) [] := zat_of zP_99 rfl
theorem zi_99_11 : zat 99 11 12 (.goto 4) [13] := zat_of zP_99 rfl
theorem zi_99_12 : zat 99 12 13 (.aconst_null) [] := zat_of zP_99 rfl
theorem zi_99_13 : zat 99 13 14 (.areturn) [] := zat_of zP_99 rfl
theorem zP_100 : zP 100 = zk_100 := rfl
theorem zi_100_0 : zat 100 0 1 (.aload_n 0) [] := zat_of zP_100 rfl
theorem zi_100_1 : zat 100 1 2 (.getfield 10) [3, 0, 152] := zat_of zP_100 rfl
theorem zi_100_2 : zat 100 2 3 (.invokevirtual 128) [26, 348, 349, 350] := zat_of zP_100 rfl
theorem zi_100_3 : zat 100 3 4 (.ifCond .ne 6) [6] := zat_of zP_100 rfl
theorem zi_100_4 : zat 100 4 5 (.bipush (-4)) [] := zat_of zP_100 rfl
theorem zi_100_5 : zat 100 5 6 (.ireturn) [] := zat_of zP_100 rfl
theorem zi_100_6 : zat 100 6 7 (.aload_n 0) [] := zat_of zP_100 rfl
theorem zi_100_7 : zat 100 7 8 (.getfield 10) [3, 0, 152] := zat_of zP_100 rfl
theorem zi_100_8 : zat 100 8 9 (.iconst 1) [] := zat_of zP_100 rfl
theorem zi_100_9 : zat 100 9 10 (.invokevirtual 166) [44, 476, 415, 416] := zat_of zP_100 rfl
theorem zi_100_10 : zat 100 10 11 (.ifCond .eq 8) [13] := zat_of zP_100 rfl
theorem zi_100_11 : zat 100 11 12 (.bipush (-2)) [] := zat_of zP_100 rfl
theorem zi_100_12 : zat 100 12 13 (.goto 4) [14] := zat_of zP_100 rfl
theorem zi_100_13 : zat 100 13 14 (.iconst 0) [] := zat_of zP_100 rfl
theorem zi_100_14 : zat 100 14 15 (.ireturn) [] := zat_of zP_100 rfl
theorem zP_101 : zP 101 = zk_101 := rfl
theorem zi_101_0 : zat 101 0 1 (.aload_n 0) [] := zat_of zP_101 rfl
theorem zi_101_1 : zat 101 1 2 (.getfield 19) [3, 3, 155] := zat_of zP_101 rfl
theorem zi_101_2 : zat 101 2 3 (.aload_n 0) [] := zat_of zP_101 rfl
theorem zi_101_3 : zat 101 3 4 (.getfield 10) [3, 0, 152] := zat_of zP_101 rfl
theorem zi_101_4 : zat 101 4 5 (.invokevirtual 111) [6, 285, 286, 287] := zat_of zP_101 rfl
theorem zi_101_5 : zat 101 5 6 (.aload_n 0) [] := zat_of zP_101 rfl
theorem zi_101_6 : zat 101 6 7 (.getfield 19) [3, 3, 155] := zat_of zP_101 rfl
theorem zi_101_7 : zat 101 7 8 (.iload_n 2) [] := zat_of zP_101 rfl
theorem zi_101_8 : zat 101 8 9 (.iconst 2) [] := zat_of zP_101 rfl
theorem zi_101_9 : zat 101 9 10 (.idiv) [] := zat_of zP_101 rfl
theorem zi_101_10 : zat 101 10 11 (.iload_n 2) [] := zat_of zP_101 rfl
theorem zi_101_11 : zat 101 11 12 (.iconst 2) [] := zat_of zP_101 rfl
theorem zi_101_12 : zat 101 12 13 (.irem) [] := zat_of zP_101 rfl
theorem zi_101_13 : zat 101 13 14 (.invokevirtual 150) [37, 398, 399, 400] := zat_of zP_101 rfl
theorem zi_101_14 : zat 101 14 15 (.istore_n 3) [] := zat_of zP_101 rfl
theorem zi_101_15 : zat 101 15 16 (.iconst 0) [] := zat_of zP_101 rfl
theorem zi_101_16 : zat 101 16 17 (.istore 4) [] := zat_of zP_101 rfl
theorem zi_101_17 : zat 101 17 18 (.iconst 0) [] := zat_of zP_101 rfl
theorem zi_101_18 : zat 101 18 19 (.istore 5) [] := zat_of zP_101 rfl
theorem zi_101_19 : zat 101 19 20 (.iload 5) [] := zat_of zP_101 rfl
theorem zi_101_20 : zat 101 20 21 (.bipush 24) [] := zat_of zP_101 rfl
theorem zi_101_21 : zat 101 21 22 (.if_icmp .ge 57) [49] := zat_of zP_101 rfl
theorem zi_101_22 : zat 101 22 23 (.aload_n 0) [] := zat_of zP_101 rfl
theorem zi_101_23 : zat 101 23 24 (.getfield 19) [3, 3, 155] := zat_of zP_101 rfl
theorem zi_101_24 : zat 101 24 25 (.iconst 1) [] := zat_of zP_101 rfl
theorem zi_101_25 : zat 101 25 26 (.iload_n 1) [] := zat_of zP_101 rfl
theorem zi_101_26 : zat 101 26 27 (.isub) [] := zat_of zP_101 rfl
theorem zi_101_27 : zat 101 27 28 (.iload 5) [] := zat_of zP_101 rfl
theorem zi_101_28 : zat 101 28 29 (.invokevirtual 184) [35, 514, 515, 516] := zat_of zP_101 rfl
theorem zi_101_29 : zat 101 29 30 (.ifCond .eq 36) [47] := zat_of zP_101 rfl
theorem zi_101_30 : zat 101 30 31 (.aload_n 0) [] := zat_of zP_101 rfl
theorem zi_101_31 : zat 101 31 32 (.getfield 22) [3, 4, 156] := zat_of zP_101 rfl
theorem zi_101_32 : zat 101 32 33 (.aload_n 0) [] := zat_of zP_101 rfl
theorem zi_101_33 : zat 101 33 34 (.getfield 19) [3, 3, 155] := zat_of zP_101 rfl
theorem zi_101_34 : zat 101 34 35 (.invokevirtual 111) [6, 285, 286, 287] := zat_of zP_101 rfl
theorem zi_101_35 : zat 101 35 36 (.iload 4) [] := zat_of zP_101 rfl
theorem zi_101_36 : zat 101 36 37 (.aload_n 0) [] := zat_of zP_101 rfl
theorem zi_101_37 : zat 101 37 38 (.getfield 22) [3, 4, 156] := zat_of zP_101 rfl
theorem zi_101_38 : zat 101 38 39 (.iload 5) [] := zat_of zP_101 rfl
theorem zi_101_39 : zat 101 39 40 (.iconst 2) [] := zat_of zP_101 rfl
theorem zi_101_40 : zat 101 40 41 (.idiv) [] := zat_of zP_101 rfl
theorem zi_101_41 : zat 101 41 42 (.iload 5) [] := zat_of zP_101 rfl
theorem zi_101_42 : zat 101 42 43 (.iconst 2) [] := zat_of zP_101 rfl
theorem zi_101_43 : zat 101 43 44 (.irem) [] := zat_of zP_101 rfl
theorem zi_101_44 : zat 101 44 45 (.invokevirtual 150) [37, 398, 399, 400] := zat_of zP_101 rfl
theorem zi_101_45 : zat 101 45 46 (.invokestatic 257) [178, 524, 525] := zat_of zP_101 rfl
theorem zi_101_46 : zat 101 46 47 (.istore 4) [] := zat_of zP_101 rfl
theorem zi_101_47 : zat 101 47 48 (.iinc 5 1) [] := zat_of zP_101 rfl
theorem zi_101_48 : zat 101 48 49 (.goto (-58)) [19] := zat_of zP_101 rfl
theorem zi_101_49 : zat 101 49 50 (.iload_n 3) [] := zat_of zP_101 rfl
theorem zi_101_50 : zat 101 50 51 (.iload 4) [] := zat_of zP_101 rfl
theorem zi_101_51 : zat 101 51 52 (.isub) [] := zat_of zP_101 rfl
theorem zi_101_52 : zat 101 52 53 (.ireturn) [] := zat_of zP_101 rfl
theorem zP_102 : zP 102 = zk_102 := rfl
theorem zi_102_0 : zat 102 0 1 (.aload_n 0) [] := zat_of zP_102 rfl
theorem zi_102_1 : zat 102 1 2 (.getfield 19) [3, 3, 155] := zat_of zP_102 rfl
theorem zi_102_2 : zat 102 2 3 (.aload_n 0) [] := zat_of zP_102 rfl
theorem zi_102_3 : zat 102 3 4 (.getfield 10) [3, 0, 152] := zat_of zP_102 rfl
theorem zi_102_4 : zat 102 4 5 (.invokevirtual 111) [6, 285, 286, 287] := zat_of zP_102 rfl
theorem zi_102_5 : zat 102 5 6 (.aload_n 0) [] := zat_of zP_102 rfl
theorem zi_102_6 : zat 102 6 7 (.getfield 19) [3, 3, 155] := zat_of zP_102 rfl
theorem zi_102_7 : zat 102 7 8 (.aload_n 0) [] := zat_of zP_102 rfl
theorem zi_102_8 : zat 102 8 9 (.getfield 19) [3, 3, 155] := zat_of zP_102 rfl
theorem zi_102_9 : zat 102 9 10 (.invokevirtual 128) [26, 348, 349, 350] := zat_of zP_102 rfl
theorem zi_102_10 : zat 102 10 11 (.invokevirtual 153) [40, 455, 456, 457] := zat_of zP_102 rfl
theorem zi_102_11 : zat 102 11 12 (.iconst 0) [] := zat_of zP_102 rfl
theorem zi_102_12 : zat 102 12 13 (.istore 4) [] := zat_of zP_102 rfl
theorem zi_102_13 : zat 102 13 14 (.iload 4) [] := zat_of zP_102 rfl
theorem zi_102_14 : zat 102 14 15 (.iload_n 3) [] := zat_of zP_102 rfl
theorem zi_102_15 : zat 102 15 16 (.if_icmp .ge 76) [55] := zat_of zP_102 rfl
theorem zi_102_16 : zat 102 16 17 (.aload_n 1) [] := zat_of zP_102 rfl
theorem zi_102_17 : zat 102 17 18 (.iload_n 2) [] := zat_of zP_102 rfl
theorem zi_102_18 : zat 102 18 19 (.iconst 2) [] := zat_of zP_102 rfl
theorem zi_102_19 : zat 102 19 20 (.iload 4) [] := zat_of zP_102 rfl
theorem zi_102_20 : zat 102 20 21 (.imul) [] := zat_of zP_102 rfl
theorem zi_102_21 : zat 102 21 22 (.iadd) [] := zat_of zP_102 rfl
theorem zi_102_22 : zat 102 22 23 (.invokevirtual 219) [4, 588, 589, 590] := zat_of zP_102 rfl
theorem zi_102_23 : zat 102 23 24 (.istore 5) [] := zat_of zP_102 rfl
theorem zi_102_24 : zat 102 24 25 (.aload_n 1) [] := zat_of zP_102 rfl
theorem zi_102_25 : zat 102 25 26 (.iload_n 2) [] := zat_of zP_102 rfl
theorem zi_102_26 : zat 102 26 27 (.iconst 2) [] := zat_of zP_102 rfl
theorem zi_102_27 : zat 102 27 28 (.iload 4) [] := zat_of zP_102 rfl
theorem zi_102_28 : zat 102 28 29 (.imul) [] := zat_of zP_102 rfl
theorem zi_102_29 : zat 102 29 30 (.iadd) [] := zat_of zP_102 rfl
theorem zi_102_30 : zat 102 30 31 (.iconst 1) [] := zat_of zP_102 rfl
theorem zi_102_31 : zat 102 31 32 (.iadd) [] := zat_of zP_102 rfl
theorem zi_102_32 : zat 102 32 33 (.invokevirtual 219) [4, 588, 589, 590] := zat_of zP_102 rfl
theorem zi_102_33 : zat 102 33 34 (.istore 6) [] := zat_of zP_102 rfl
theorem zi_102_34 : zat 102 34 35 (.aload_n 0) [] := zat_of zP_102 rfl
theorem zi_102_35 : zat 102 35 36 (.getfield 19) [3, 3, 155] := zat_of zP_102 rfl
theorem zi_102_36 : zat 102 36 37 (.iload 5) [] := zat_of zP_102 rfl
theorem zi_102_37 : zat 102 37 38 (.invokevirtual 92) [23, 256, 257, 258] := zat_of zP_102 rfl
theorem zi_102_38 : zat 102 38 39 (.ifCond .ne 17) [45] := zat_of zP_102 rfl
theorem zi_102_39 : zat 102 39 40 (.aload_n 0) [] := zat_of zP_102 rfl
theorem zi_102_40 : zat 102 40 41 (.getfield 19) [3, 3, 155] := zat_of zP_102 rfl
theorem zi_102_41 : zat 102 41 42 (.iload 5) [] := zat_of zP_102 rfl
theorem zi_102_42 : zat 102 42 43 (.iload 6) [] := zat_of zP_102 rfl
theorem zi_102_43 : zat 102 43 44 (.invokevirtual 143) [34, 378, 379, 380] := zat_of zP_102 rfl
theorem zi_102_44 : zat 102 44 45 (.ifCond .ne 6) [47] := zat_of zP_102 rfl
theorem zi_102_45 : zat 102 45 46 (.iload 4) [] := zat_of zP_102 rfl
theorem zi_102_46 : zat 102 46 47 (.ireturn) [] := zat_of zP_102 rfl
theorem zi_102_47 : zat 102 47 48 (.aload_n 0) [] := zat_of zP_102 rfl
theorem zi_102_48 : zat 102 48 49 (.getfield 19) [3, 3, 155] := zat_of zP_102 rfl
theorem zi_102_49 : zat 102 49 50 (.iload 5) [] := zat_of zP_102 rfl
theorem zi_102_50 : zat 102 50 51 (.iload 6) [] := zat_of zP_102 rfl
theorem zi_102_51 : zat 102 51 52 (.invokevirtual 150) [37, 398, 399, 400] := zat_of zP_102 rfl
theorem zi_102_52 : zat 102 52 53 (.pop) [] := zat_of zP_102 rfl
theorem zi_102_53 : zat 102 53 54 (.iinc 4 1) [] := zat_of zP_102 rfl
theorem zi_102_54 : zat 102 54 55 (.goto (-76)) [13] := zat_of zP_102 rfl
theorem zi_102_55 : zat 102 55 56 (.bipush (-4)) [] := zat_of zP_102 rfl
theorem zi_102_56 : zat 102 56 57 (.ireturn) [] := zat_of zP_102 rfl
theorem zP_103 : zP 103 = zk_103 := rfl
theorem zi_103_0 : zat 103 0 1 (.aload_n 0) [] := zat_of zP_103 rfl
theorem zi_103_1 : zat 103 1 2 (.getfield 19) [3, 3, 155] := zat_of zP_103 rfl
theorem zi_103_2 : zat 103 2 3 (.aload_n 0) [] := zat_of zP_103 rfl
theorem zi_103_3 : zat 103 3 4 (.getfield 10) [3, 0, 152] := zat_of zP_103 rfl
theorem zi_103_4 : zat 103 4 5 (.invokevirtual 111) [6, 285, 286, 287] := zat_of zP_103 rfl
theorem zi_103_5 : zat 103 5 6 (.aload_n 0) [] := zat_of zP_103 rfl
theorem zi_103_6 : zat 103 6 7 (.getfield 19) [3, 3, 155] := zat_of zP_103 rfl
theorem zi_103_7 : zat 103 7 8 (.aload_n 0) [] := zat_of zP_103 rfl
theorem zi_103_8 : zat 103 8 9 (.getfield 19) [3, 3, 155] := zat_of zP_103 rfl
theorem zi_103_9 : zat 103 9 10 (.invokevirtual 128) [26, 348, 349, 350] := zat_of zP_103 rfl
theorem zi_103_10 : zat 103 10 11 (.invokevirtual 153) [40, 455, 456, 457] := zat_of zP_103 rfl
theorem zi_103_11 : zat 103 11 12 (.aload_n 0) [] := zat_of zP_103 rfl
theorem zi_103_12 : zat 103 12 13 (.iload_n 1) [] := zat_of zP_103 rfl
theorem zi_103_13 : zat 103 13 14 (.invokevirtual 262) [104, 615, 617, 20] := zat_of zP_103 rfl
theorem zi_103_14 : zat 103 14 15 (.iconst 0) [] := zat_of zP_103 rfl
theorem zi_103_15 : zat 103 15 16 (.istore 5) [] := zat_of zP_103 rfl
theorem zi_103_16 : zat 103 16 17 (.iconst 1) [] := zat_of zP_103 rfl
theorem zi_103_17 : zat 103 17 18 (.istore 6) [] := zat_of zP_103 rfl
theorem zi_103_18 : zat 103 18 19 (.iconst 0) [] := zat_of zP_103 rfl
theorem zi_103_19 : zat 103 19 20 (.istore 7) [] := zat_of zP_103 rfl
theorem zi_103_20 : zat 103 20 21 (.iload 7) [] := zat_of zP_103 rfl
theorem zi_103_21 : zat 103 21 22 (.bipush 120) [] := zat_of zP_103 rfl
theorem zi_103_22 : zat 103 22 23 (.if_icmp .ge 52) [46] := zat_of zP_103 rfl
theorem zi_103_23 : zat 103 23 24 (.iload 6) [] := zat_of zP_103 rfl
theorem zi_103_24 : zat 103 24 25 (.ifCond .eq 47) [46] := zat_of zP_103 rfl
theorem zi_103_25 : zat 103 25 26 (.aload_n 0) [] := zat_of zP_103 rfl
theorem zi_103_26 : zat 103 26 27 (.iload_n 1) [] := zat_of zP_103 rfl
theorem zi_103_27 : zat 103 27 28 (.iload_n 2) [] := zat_of zP_103 rfl
theorem zi_103_28 : zat 103 28 29 (.aload_n 3) [] := zat_of zP_103 rfl
theorem zi_103_29 : zat 103 29 30 (.iload 4) [] := zat_of zP_103 rfl
theorem zi_103_30 : zat 103 30 31 (.invokevirtual 265) [107, 623, 625, 21] := zat_of zP_103 rfl
theorem zi_103_31 : zat 103 31 32 (.ifCond .eq 22) [40] := zat_of zP_103 rfl
theorem zi_103_32 : zat 103 32 33 (.iload 5) [] := zat_of zP_103 rfl
theorem zi_103_33 : zat 103 33 34 (.ifCond .ne 14) [39] := zat_of zP_103 rfl
theorem zi_103_34 : zat 103 34 35 (.aload_n 0) [] := zat_of zP_103 rfl
theorem zi_103_35 : zat 103 35 36 (.getfield 38) [3, 7, 159] := zat_of zP_103 rfl
theorem zi_103_36 : zat 103 36 37 (.aload_n 0) [] := zat_of zP_103 rfl
theorem zi_103_37 : zat 103 37 38 (.getfield 42) [3, 8, 160] := zat_of zP_103 rfl
theorem zi_103_38 : zat 103 38 39 (.invokestatic 269) [111, 628, 290] := zat_of zP_103 rfl
theorem zi_103_39 : zat 103 39 40 (.iinc 5 1) [] := zat_of zP_103 rfl
theorem zi_103_40 : zat 103 40 41 (.aload_n 0) [] := zat_of zP_103 rfl
theorem zi_103_41 : zat 103 41 42 (.iload_n 2) [] := zat_of zP_103 rfl
theorem zi_103_42 : zat 103 42 43 (.invokevirtual 273) [105, 629, 631, 22] := zat_of zP_103 rfl
theorem zi_103_43 : zat 103 43 44 (.istore 6) [] := zat_of zP_103 rfl
theorem zi_103_44 : zat 103 44 45 (.iinc 7 1) [] := zat_of zP_103 rfl
theorem zi_103_45 : zat 103 45 46 (.goto (-53)) [20] := zat_of zP_103 rfl
theorem zi_103_46 : zat 103 46 47 (.iload 5) [] := zat_of zP_103 rfl
theorem zi_103_47 : zat 103 47 48 (.ireturn) [] := zat_of zP_103 rfl
theorem zP_104 : zP 104 = zk_104 := rfl
theorem zi_104_0 : zat 104 0 1 (.iconst 0) [] := zat_of zP_104 rfl
theorem zi_104_1 : zat 104 1 2 (.istore_n 2) [] := zat_of zP_104 rfl
theorem zi_104_2 : zat 104 2 3 (.iconst 0) [] := zat_of zP_104 rfl
theorem zi_104_3 : zat 104 3 4 (.istore_n 3) [] := zat_of zP_104 rfl
theorem zi_104_4 : zat 104 4 5 (.iload_n 3) [] := zat_of zP_104 rfl
theorem zi_104_5 : zat 104 5 6 (.bipush 12) [] := zat_of zP_104 rfl
theorem zi_104_6 : zat 104 6 7 (.if_icmp .ge 29) [19] := zat_of zP_104 rfl
theorem zi_104_7 : zat 104 7 8 (.iload_n 1) [] := zat_of zP_104 rfl
theorem zi_104_8 : zat 104 8 9 (.iload_n 3) [] := zat_of zP_104 rfl
theorem zi_104_9 : zat 104 9 10 (.invokestatic 276) [108, 619, 620] := zat_of zP_104 rfl
theorem zi_104_10 : zat 104 10 11 (.ifCond .eq 15) [17] := zat_of zP_104 rfl
theorem zi_104_11 : zat 104 11 12 (.aload_n 0) [] := zat_of zP_104 rfl
theorem zi_104_12 : zat 104 12 13 (.getfield 38) [3, 7, 159] := zat_of zP_104 rfl
theorem zi_104_13 : zat 104 13 14 (.iload_n 2) [] := zat_of zP_104 rfl
theorem zi_104_14 : zat 104 14 15 (.iload_n 3) [] := zat_of zP_104 rfl
theorem zi_104_15 : zat 104 15 16 (.invokestatic 279) [110, 622, 199] := zat_of zP_104 rfl
theorem zi_104_16 : zat 104 16 17 (.iinc 2 1) [] := zat_of zP_104 rfl
theorem zi_104_17 : zat 104 17 18 (.iinc 3 1) [] := zat_of zP_104 rfl
theorem zi_104_18 : zat 104 18 19 (.goto (-29)) [4] := zat_of zP_104 rfl
theorem zi_104_19 : zat 104 19 20 (.return_) [] := zat_of zP_104 rfl
theorem zP_105 : zP 105 = zk_105 := rfl
theorem zi_105_0 : zat 105 0 1 (.iload_n 1) [] := zat_of zP_105 rfl
theorem zi_105_1 : zat 105 1 2 (.iconst 2) [] := zat_of zP_105 rfl
theorem zi_105_2 : zat 105 2 3 (.isub) [] := zat_of zP_105 rfl
theorem zi_105_3 : zat 105 3 4 (.istore_n 2) [] := zat_of zP_105 rfl
theorem zi_105_4 : zat 105 4 5 (.iload_n 2) [] := zat_of zP_105 rfl
theorem zi_105_5 : zat 105 5 6 (.ifCond .lt 30) [19] := zat_of zP_105 rfl
theorem zi_105_6 : zat 105 6 7 (.aload_n 0) [] := zat_of zP_105 rfl
theorem zi_105_7 : zat 105 7 8 (.getfield 38) [3, 7, 159] := zat_of zP_105 rfl
theorem zi_105_8 : zat 105 8 9 (.iload_n 2) [] := zat_of zP_105 rfl
theorem zi_105_9 : zat 105 9 10 (.invokestatic 238) [109, 627, 225] := zat_of zP_105 rfl
theorem zi_105_10 : zat 105 10 11 (.aload_n 0) [] := zat_of zP_105 rfl
theorem zi_105_11 : zat 105 11 12 (.getfield 38) [3, 7, 159] := zat_of zP_105 rfl
theorem zi_105_12 : zat 105 12 13 (.iload_n 2) [] := zat_of zP_105 rfl
theorem zi_105_13 : zat 105 13 14 (.iconst 1) [] := zat_of zP_105 rfl
theorem zi_105_14 : zat 105 14 15 (.iadd) [] := zat_of zP_105 rfl
theorem zi_105_15 : zat 105 15 16 (.invokestatic 238) [109, 627, 225] := zat_of zP_105 rfl
theorem zi_105_16 : zat 105 16 17 (.if_icmp .le 9) [19] := zat_of zP_105 rfl
theorem zi_105_17 : zat 105 17 18 (.iinc 2 (-1)) [] := zat_of zP_105 rfl
theorem zi_105_18 : zat 105 18 19 (.goto (-28)) [4] := zat_of zP_105 rfl
theorem zi_105_19 : zat 105 19 20 (.iload_n 2) [] := zat_of zP_105 rfl
theorem zi_105_20 : zat 105 20 21 (.ifCond .ge 5) [23] := zat_of zP_105 rfl
theorem zi_105_21 : zat 105 21 22 (.iconst 0) [] := zat_of zP_105 rfl
theorem zi_105_22 : zat 105 22 23 (.ireturn) [] := zat_of zP_105 rfl
theorem zi_105_23 : zat 105 23 24 (.iload_n 1) [] := zat_of zP_105 rfl
theorem zi_105_24 : zat 105 24 25 (.iconst 1) [] := zat_of zP_105 rfl
theorem zi_105_25 : zat 105 25 26 (.isub) [] := zat_of zP_105 rfl
theorem zi_105_26 : zat 105 26 27 (.istore_n 3) [] := zat_of zP_105 rfl
theorem zi_105_27 : zat 105 27 28 (.iload_n 3) [] := zat_of zP_105 rfl
theorem zi_105_28 : zat 105 28 29 (.iload_n 2) [] := zat_of zP_105 rfl
theorem zi_105_29 : zat 105 29 30 (.if_icmp .le 28) [41] := zat_of zP_105 rfl
theorem zi_105_30 : zat 105 30 31 (.aload_n 0) [] := zat_of zP_105 rfl
theorem zi_105_31 : zat 105 31 32 (.getfield 38) [3, 7, 159] := zat_of zP_105 rfl
theorem zi_105_32 : zat 105 32 33 (.iload_n 3) [] := zat_of zP_105 rfl
theorem zi_105_33 : zat 105 33 34 (.invokestatic 238) [109, 627, 225] := zat_of zP_105 rfl
theorem zi_105_34 : zat 105 34 35 (.aload_n 0) [] := zat_of zP_105 rfl
theorem zi_105_35 : zat 105 35 36 (.getfield 38) [3, 7, 159] := zat_of zP_105 rfl
theorem zi_105_36 : zat 105 36 37 (.iload_n 2) [] := zat_of zP_105 rfl
theorem zi_105_37 : zat 105 37 38 (.invokestatic 238) [109, 627, 225] := zat_of zP_105 rfl
theorem zi_105_38 : zat 105 38 39 (.if_icmp .ge 9) [41] := zat_of zP_105 rfl
theorem zi_105_39 : zat 105 39 40 (.iinc 3 (-1)) [] := zat_of zP_105 rfl
theorem zi_105_40 : zat 105 40 41 (.goto (-27)) [27] := zat_of zP_105 rfl
theorem zi_105_41 : zat 105 41 42 (.aload_n 0) [] := zat_of zP_105 rfl
theorem zi_105_42 : zat 105 42 43 (.iload_n 2) [] := zat_of zP_105 rfl
theorem zi_105_43 : zat 105 43 44 (.iload_n 3) [] := zat_of zP_105 rfl
theorem zi_105_44 : zat 105 44 45 (.invokevirtual 283) [106, 633, 635, 23] := zat_of zP_105 rfl
theorem zi_105_45 : zat 105 45 46 (.iload_n 2) [] := zat_of zP_105 rfl
theorem zi_105_46 : zat 105 46 47 (.iconst 1) [] := zat_of zP_105 rfl
theorem zi_105_47 : zat 105 47 48 (.iadd) [] := zat_of zP_105 rfl
theorem zi_105_48 : zat 105 48 49 (.istore 4) [] := zat_of zP_105 rfl
theorem zi_105_49 : zat 105 49 50 (.iload_n 1) [] := zat_of zP_105 rfl
theorem zi_105_50 : zat 105 50 51 (.iconst 1) [] := zat_of zP_105 rfl
theorem zi_105_51 : zat 105 51 52 (.isub) [] := zat_of zP_105 rfl
theorem zi_105_52 : zat 105 52 53 (.istore 5) [] := zat_of zP_105 rfl
theorem zi_105_53 : zat 105 53 54 (.iload 4) [] := zat_of zP_105 rfl
theorem zi_105_54 : zat 105 54 55 (.iload 5) [] := zat_of zP_105 rfl
theorem zi_105_55 : zat 105 55 56 (.if_icmp .ge 20) [63] := zat_of zP_105 rfl
theorem zi_105_56 : zat 105 56 57 (.aload_n 0) [] := zat_of zP_105 rfl
theorem zi_105_57 : zat 105 57 58 (.iload 4) [] := zat_of zP_105 rfl
theorem zi_105_58 : zat 105 58 59 (.iload 5) [] := zat_of zP_105 rfl
theorem zi_105_59 : zat 105 59 60 (.invokevirtual 283) [106, 633, 635, 23] := zat_of zP_105 rfl
theorem zi_105_60 : zat 105 60 61 (.iinc 4 1) [] := zat_of zP_105 rfl
theorem zi_105_61 : zat 105 61 62 (.iinc 5 (-1)) [] := zat_of zP_105 rfl
theorem zi_105_62 : zat 105 62 63 (.goto (-21)) [53] := zat_of zP_105 rfl
theorem zi_105_63 : zat 105 63 64 (.iconst 1) [] := zat_of zP_105 rfl
theorem zi_105_64 : zat 105 64 65 (.ireturn) [] := zat_of zP_105 rfl
theorem zP_106 : zP 106 = zk_106 := rfl
theorem zi_106_0 : zat 106 0 1 (.aload_n 0) [] := zat_of zP_106 rfl
theorem zi_106_1 : zat 106 1 2 (.getfield 38) [3, 7, 159] := zat_of zP_106 rfl
theorem zi_106_2 : zat 106 2 3 (.iload_n 1) [] := zat_of zP_106 rfl
theorem zi_106_3 : zat 106 3 4 (.invokestatic 238) [109, 627, 225] := zat_of zP_106 rfl
theorem zi_106_4 : zat 106 4 5 (.istore_n 3) [] := zat_of zP_106 rfl
theorem zi_106_5 : zat 106 5 6 (.aload_n 0) [] := zat_of zP_106 rfl
theorem zi_106_6 : zat 106 6 7 (.getfield 38) [3, 7, 159] := zat_of zP_106 rfl
theorem zi_106_7 : zat 106 7 8 (.iload_n 1) [] := zat_of zP_106 rfl
theorem zi_106_8 : zat 106 8 9 (.aload_n 0) [] := zat_of zP_106 rfl
theorem zi_106_9 : zat 106 9 10 (.getfield 38) [3, 7, 159] := zat_of zP_106 rfl
theorem zi_106_10 : zat 106 10 11 (.iload_n 2) [] := zat_of zP_106 rfl
theorem zi_106_11 : zat 106 11 12 (.invokestatic 238) [109, 627, 225] := zat_of zP_106 rfl
theorem zi_106_12 : zat 106 12 13 (.invokestatic 279) [110, 622, 199] := zat_of zP_106 rfl
theorem zi_106_13 : zat 106 13 14 (.aload_n 0) [] := zat_of zP_106 rfl
theorem zi_106_14 : zat 106 14 15 (.getfield 38) [3, 7, 159] := zat_of zP_106 rfl
theorem zi_106_15 : zat 106 15 16 (.iload_n 2) [] := zat_of zP_106 rfl
theorem zi_106_16 : zat 106 16 17 (.iload_n 3) [] := zat_of zP_106 rfl
theorem zi_106_17 : zat 106 17 18 (.invokestatic 279) [110, 622, 199] := zat_of zP_106 rfl
theorem zi_106_18 : zat 106 18 19 (.return_) [] := zat_of zP_106 rfl
theorem zP_107 : zP 107 = zk_107 := rfl
theorem zi_107_0 : zat 107 0 1 (.aload_n 0) [] := zat_of zP_107 rfl
theorem zi_107_1 : zat 107 1 2 (.getfield 22) [3, 4, 156] := zat_of zP_107 rfl
theorem zi_107_2 : zat 107 2 3 (.aload_n 0) [] := zat_of zP_107 rfl
theorem zi_107_3 : zat 107 3 4 (.getfield 19) [3, 3, 155] := zat_of zP_107 rfl
theorem zi_107_4 : zat 107 4 5 (.invokevirtual 111) [6, 285, 286, 287] := zat_of zP_107 rfl
theorem zi_107_5 : zat 107 5 6 (.iconst 0) [] := zat_of zP_107 rfl
theorem zi_107_6 : zat 107 6 7 (.istore 5) [] := zat_of zP_107 rfl
theorem zi_107_7 : zat 107 7 8 (.iload 5) [] := zat_of zP_107 rfl
theorem zi_107_8 : zat 107 8 9 (.iload_n 2) [] := zat_of zP_107 rfl
theorem zi_107_9 : zat 107 9 10 (.if_icmp .ge 46) [31] := zat_of zP_107 rfl
theorem zi_107_10 : zat 107 10 11 (.aload_n 0) [] := zat_of zP_107 rfl
theorem zi_107_11 : zat 107 11 12 (.getfield 38) [3, 7, 159] := zat_of zP_107 rfl
theorem zi_107_12 : zat 107 12 13 (.iload 5) [] := zat_of zP_107 rfl
theorem zi_107_13 : zat 107 13 14 (.invokestatic 238) [109, 627, 225] := zat_of zP_107 rfl
theorem zi_107_14 : zat 107 14 15 (.istore 6) [] := zat_of zP_107 rfl
theorem zi_107_15 : zat 107 15 16 (.aload_n 0) [] := zat_of zP_107 rfl
theorem zi_107_16 : zat 107 16 17 (.getfield 22) [3, 4, 156] := zat_of zP_107 rfl
theorem zi_107_17 : zat 107 17 18 (.iload 6) [] := zat_of zP_107 rfl
theorem zi_107_18 : zat 107 18 19 (.iconst 0) [] := zat_of zP_107 rfl
theorem zi_107_19 : zat 107 19 20 (.invokevirtual 143) [34, 378, 379, 380] := zat_of zP_107 rfl
theorem zi_107_20 : zat 107 20 21 (.ifCond .ne 5) [23] := zat_of zP_107 rfl
theorem zi_107_21 : zat 107 21 22 (.iconst 0) [] := zat_of zP_107 rfl
theorem zi_107_22 : zat 107 22 23 (.ireturn) [] := zat_of zP_107 rfl
theorem zi_107_23 : zat 107 23 24 (.aload_n 0) [] := zat_of zP_107 rfl
theorem zi_107_24 : zat 107 24 25 (.getfield 22) [3, 4, 156] := zat_of zP_107 rfl
theorem zi_107_25 : zat 107 25 26 (.iload 6) [] := zat_of zP_107 rfl
theorem zi_107_26 : zat 107 26 27 (.iconst 0) [] := zat_of zP_107 rfl
theorem zi_107_27 : zat 107 27 28 (.invokevirtual 150) [37, 398, 399, 400] := zat_of zP_107 rfl
theorem zi_107_28 : zat 107 28 29 (.pop) [] := zat_of zP_107 rfl
theorem zi_107_29 : zat 107 29 30 (.iinc 5 1) [] := zat_of zP_107 rfl
theorem zi_107_30 : zat 107 30 31 (.goto (-46)) [7] := zat_of zP_107 rfl
theorem zi_107_31 : zat 107 31 32 (.iload 4) [] := zat_of zP_107 rfl
theorem zi_107_32 : zat 107 32 33 (.istore 5) [] := zat_of zP_107 rfl
theorem zi_107_33 : zat 107 33 34 (.iconst 0) [] := zat_of zP_107 rfl
theorem zi_107_34 : zat 107 34 35 (.istore 6) [] := zat_of zP_107 rfl
theorem zi_107_35 : zat 107 35 36 (.iload 6) [] := zat_of zP_107 rfl
theorem zi_107_36 : zat 107 36 37 (.bipush 12) [] := zat_of zP_107 rfl
theorem zi_107_37 : zat 107 37 38 (.if_icmp .ge 63) [67] := zat_of zP_107 rfl
theorem zi_107_38 : zat 107 38 39 (.iload_n 1) [] := zat_of zP_107 rfl
theorem zi_107_39 : zat 107 39 40 (.iload 6) [] := zat_of zP_107 rfl
theorem zi_107_40 : zat 107 40 41 (.invokestatic 276) [108, 619, 620] := zat_of zP_107 rfl
theorem zi_107_41 : zat 107 41 42 (.ifCond .eq 48) [65] := zat_of zP_107 rfl
theorem zi_107_42 : zat 107 42 43 (.aload_n 0) [] := zat_of zP_107 rfl
theorem zi_107_43 : zat 107 43 44 (.getfield 22) [3, 4, 156] := zat_of zP_107 rfl
theorem zi_107_44 : zat 107 44 45 (.iload 6) [] := zat_of zP_107 rfl
theorem zi_107_45 : zat 107 45 46 (.iconst 0) [] := zat_of zP_107 rfl
theorem zi_107_46 : zat 107 46 47 (.invokevirtual 72) [16, 227, 228, 229] := zat_of zP_107 rfl
theorem zi_107_47 : zat 107 47 48 (.aload_n 3) [] := zat_of zP_107 rfl
theorem zi_107_48 : zat 107 48 49 (.iload 5) [] := zat_of zP_107 rfl
theorem zi_107_49 : zat 107 49 50 (.invokevirtual 219) [4, 588, 589, 590] := zat_of zP_107 rfl
theorem zi_107_50 : zat 107 50 51 (.if_icmp .ne 24) [62] := zat_of zP_107 rfl
theorem zi_107_51 : zat 107 51 52 (.aload_n 0) [] := zat_of zP_107 rfl
theorem zi_107_52 : zat 107 52 53 (.getfield 22) [3, 4, 156] := zat_of zP_107 rfl
theorem zi_107_53 : zat 107 53 54 (.iload 6) [] := zat_of zP_107 rfl
theorem zi_107_54 : zat 107 54 55 (.iconst 1) [] := zat_of zP_107 rfl
theorem zi_107_55 : zat 107 55 56 (.invokevirtual 72) [16, 227, 228, 229] := zat_of zP_107 rfl
theorem zi_107_56 : zat 107 56 57 (.aload_n 3) [] := zat_of zP_107 rfl
theorem zi_107_57 : zat 107 57 58 (.iload 5) [] := zat_of zP_107 rfl
theorem zi_107_58 : zat 107 58 59 (.iconst 1) [] := zat_of zP_107 rfl
theorem zi_107_59 : zat 107 59 60 (.iadd) [] := zat_of zP_107 rfl
theorem zi_107_60 : zat 107 60 61 (.invokevirtual 219) [4, 588, 589, 590] := zat_of zP_107 rfl
theorem zi_107_61 : zat 107 61 62 (.if_icmp .eq 5) [64] := zat_of zP_107 rfl
theorem zi_107_62 : zat 107 62 63 (.iconst 0) [] := zat_of zP_107 rfl
theorem zi_107_63 : zat 107 63 64 (.ireturn) [] := zat_of zP_107 rfl
theorem zi_107_64 : zat 107 64 65 (.iinc 5 2) [] := zat_of zP_107 rfl
theorem zi_107_65 : zat 107 65 66 (.iinc 6 1) [] := zat_of zP_107 rfl
theorem zi_107_66 : zat 107 66 67 (.goto (-64)) [35] := zat_of zP_107 rfl
theorem zi_107_67 : zat 107 67 68 (.iconst 1) [] := zat_of zP_107 rfl
theorem zi_107_68 : zat 107 68 69 (.ireturn) [] := zat_of zP_107 rfl
theorem zP_108 : zP 108 = zk_108 := rfl
theorem zi_108_0 : zat 108 0 1 (.iload_n 0) [] := zat_of zP_108 rfl
theorem zi_108_1 : zat 108 1 2 (.iload_n 1) [] := zat_of zP_108 rfl
theorem zi_108_2 : zat 108 2 3 (.ishr) [] := zat_of zP_108 rfl
theorem zi_108_3 : zat 108 3 4 (.iconst 1) [] := zat_of zP_108 rfl
theorem zi_108_4 : zat 108 4 5 (.iand) [] := zat_of zP_108 rfl
theorem zi_108_5 : zat 108 5 6 (.ifCond .eq 7) [8] := zat_of zP_108 rfl
theorem zi_108_6 : zat 108 6 7 (.iconst 1) [] := zat_of zP_108 rfl
theorem zi_108_7 : zat 108 7 8 (.goto 4) [9] := zat_of zP_108 rfl
theorem zi_108_8 : zat 108 8 9 (.iconst 0) [] := zat_of zP_108 rfl
theorem zi_108_9 : zat 108 9 10 (.ireturn) [] := zat_of zP_108 rfl
theorem zP_109 : zP 109 = zk_109 := rfl
theorem zi_109_0 : zat 109 0 1 (.iload_n 1) [] := zat_of zP_109 rfl
theorem zi_109_1 : zat 109 1 2 (.ifCond .lt 15) [10] := zat_of zP_109 rfl
theorem zi_109_2 : zat 109 2 3 (.iload_n 1) [] := zat_of zP_109 rfl
theorem zi_109_3 : zat 109 3 4 (.aload_n 0) [] := zat_of zP_109 rfl
theorem zi_109_4 : zat 109 4 5 (.arraylength) [] := zat_of zP_109 rfl
theorem zi_109_5 : zat 109 5 6 (.if_icmp .ge 9) [10] := zat_of zP_109 rfl
theorem zi_109_6 : zat 109 6 7 (.aload_n 0) [] := zat_of zP_109 rfl
theorem zi_109_7 : zat 109 7 8 (.iload_n 1) [] := zat_of zP_109 rfl
theorem zi_109_8 : zat 109 8 9 (.iaload) [] := zat_of zP_109 rfl
theorem zi_109_9 : zat 109 9 10 (.goto 4) [11] := zat_of zP_109 rfl
theorem zi_109_10 : zat 109 10 11 (.iconst 0) [] := zat_of zP_109 rfl
theorem zi_109_11 : zat 109 11 12 (.ireturn) [] := zat_of zP_109 rfl
theorem zP_110 : zP 110 = zk_110 := rfl
theorem zi_110_0 : zat 110 0 1 (.iload_n 1) [] := zat_of zP_110 rfl
theorem zi_110_1 : zat 110 1 2 (.ifCond .lt 13) [10] := zat_of zP_110 rfl
theorem zi_110_2 : zat 110 2 3 (.iload_n 1) [] := zat_of zP_110 rfl
theorem zi_110_3 : zat 110 3 4 (.aload_n 0) [] := zat_of zP_110 rfl
theorem zi_110_4 : zat 110 4 5 (.arraylength) [] := zat_of zP_110 rfl
theorem zi_110_5 : zat 110 5 6 (.if_icmp .ge 7) [10] := zat_of zP_110 rfl
theorem zi_110_6 : zat 110 6 7 (.aload_n 0) [] := zat_of zP_110 rfl
theorem zi_110_7 : zat 110 7 8 (.iload_n 1) [] := zat_of zP_110 rfl
theorem zi_110_8 : zat 110 8 9 (.iload_n 2) [] := zat_of zP_110 rfl
theorem zi_110_9 : zat 110 9 10 (.iastore) [] := zat_of zP_110 rfl
theorem zi_110_10 : zat 110 10 11 (.return_) [] := zat_of zP_110 rfl
theorem zP_111 : zP 111 = zk_111 := rfl
theorem zi_111_0 : zat 111 0 1 (.aload_n 0) [] := zat_of zP_111 rfl
theorem zi_111_1 : zat 111 1 2 (.iconst 0) [] := zat_of zP_111 rfl
theorem zi_111_2 : zat 111 2 3 (.aload_n 1) [] := zat_of zP_111 rfl
theorem zi_111_3 : zat 111 3 4 (.iconst 0) [] := zat_of zP_111 rfl
theorem zi_111_4 : zat 111 4 5 (.aload_n 0) [] := zat_of zP_111 rfl
theorem zi_111_5 : zat 111 5 6 (.arraylength) [] := zat_of zP_111 rfl
theorem zi_111_6 : zat 111 6 7 (.aload_n 1) [] := zat_of zP_111 rfl
theorem zi_111_7 : zat 111 7 8 (.arraylength) [] := zat_of zP_111 rfl
theorem zi_111_8 : zat 111 8 9 (.invokestatic 286) [179, 292, 293] := zat_of zP_111 rfl
theorem zi_111_9 : zat 111 9 10 (.invokestatic 289) [999, 295, 297, 296, 62] := zat_of zP_111 rfl
theorem zi_111_10 : zat 111 10 11 (.return_) [] := zat_of zP_111 rfl
theorem zP_112 : zP 112 = zk_112 := rfl
theorem zi_112_0 : zat 112 0 1 (.lload_n 0) [] := zat_of zP_112 rfl
theorem zi_112_1 : zat 112 1 2 (.lload_n 2) [] := zat_of zP_112 rfl
theorem zi_112_2 : zat 112 2 3 (.lcmp) [] := zat_of zP_112 rfl
theorem zi_112_3 : zat 112 3 4 (.ifCond .lt 14) [10] := zat_of zP_112 rfl
theorem zi_112_4 : zat 112 4 5 (.lload_n 0) [] := zat_of zP_112 rfl
theorem zi_112_5 : zat 112 5 6 (.lload 4) [] := zat_of zP_112 rfl
theorem zi_112_6 : zat 112 6 7 (.lcmp) [] := zat_of zP_112 rfl
theorem zi_112_7 : zat 112 7 8 (.ifCond .gt 7) [10] := zat_of zP_112 rfl
theorem zi_112_8 : zat 112 8 9 (.iconst 1) [] := zat_of zP_112 rfl
theorem zi_112_9 : zat 112 9 10 (.goto 4) [11] := zat_of zP_112 rfl
theorem zi_112_10 : zat 112 10 11 (.iconst 0) [] := zat_of zP_112 rfl
theorem zi_112_11 : zat 112 11 12 (.ireturn) [] := zat_of zP_112 rfl
theorem zP_113 : zP 113 = zk_113 := rfl
theorem zi_113_0 : zat 113 0 1 (.iload_n 1) [] := zat_of zP_113 rfl
theorem zi_113_1 : zat 113 1 2 (.i2l) [] := zat_of zP_113 rfl
theorem zi_113_2 : zat 113 2 3 (.lconst 0) [] := zat_of zP_113 rfl
theorem zi_113_3 : zat 113 3 4 (.aload_n 0) [] := zat_of zP_113 rfl
theorem zi_113_4 : zat 113 4 5 (.getfield 71) [4, 1, 678] := zat_of zP_113 rfl
theorem zi_113_5 : zat 113 5 6 (.iconst 1) [] := zat_of zP_113 rfl
theorem zi_113_6 : zat 113 6 7 (.isub) [] := zat_of zP_113 rfl
theorem zi_113_7 : zat 113 7 8 (.i2l) [] := zat_of zP_113 rfl
theorem zi_113_8 : zat 113 8 9 (.invokestatic 74) [112, 767, 768] := zat_of zP_113 rfl
theorem zi_113_9 : zat 113 9 10 (.ireturn) [] := zat_of zP_113 rfl
theorem zP_114 : zP 114 = zk_114 := rfl
theorem zi_114_0 : zat 114 0 1 (.aload_n 0) [] := zat_of zP_114 rfl
theorem zi_114_1 : zat 114 1 2 (.getfield 7) [4, 0, 677] := zat_of zP_114 rfl
theorem zi_114_2 : zat 114 2 3 (.bipush 6) [] := zat_of zP_114 rfl
theorem zi_114_3 : zat 114 3 4 (.iload_n 1) [] := zat_of zP_114 rfl
theorem zi_114_4 : zat 114 4 5 (.imul) [] := zat_of zP_114 rfl
theorem zi_114_5 : zat 114 5 6 (.iconst 1) [] := zat_of zP_114 rfl
theorem zi_114_6 : zat 114 6 7 (.iadd) [] := zat_of zP_114 rfl
theorem zi_114_7 : zat 114 7 8 (.iload_n 2) [] := zat_of zP_114 rfl
theorem zi_114_8 : zat 114 8 9 (.iadd) [] := zat_of zP_114 rfl
theorem zi_114_9 : zat 114 9 10 (.iaload) [] := zat_of zP_114 rfl
theorem zi_114_10 : zat 114 10 11 (.ireturn) [] := zat_of zP_114 rfl
theorem zP_115 : zP 115 = zk_115 := rfl
theorem zi_115_0 : zat 115 0 1 (.bipush 6) [] := zat_of zP_115 rfl
theorem zi_115_1 : zat 115 1 2 (.aload_n 0) [] := zat_of zP_115 rfl
theorem zi_115_2 : zat 115 2 3 (.getfield 71) [4, 1, 678] := zat_of zP_115 rfl
theorem zi_115_3 : zat 115 3 4 (.imul) [] := zat_of zP_115 rfl
theorem zi_115_4 : zat 115 4 5 (.istore 6) [] := zat_of zP_115 rfl
theorem zi_115_5 : zat 115 5 6 (.aload_n 0) [] := zat_of zP_115 rfl
theorem zi_115_6 : zat 115 6 7 (.getfield 7) [4, 0, 677] := zat_of zP_115 rfl
theorem zi_115_7 : zat 115 7 8 (.iload 6) [] := zat_of zP_115 rfl
theorem zi_115_8 : zat 115 8 9 (.iload_n 1) [] := zat_of zP_115 rfl
theorem zi_115_9 : zat 115 9 10 (.iastore) [] := zat_of zP_115 rfl
theorem zi_115_10 : zat 115 10 11 (.aload_n 0) [] := zat_of zP_115 rfl
theorem zi_115_11 : zat 115 11 12 (.getfield 7) [4, 0, 677] := zat_of zP_115 rfl
theorem zi_115_12 : zat 115 12 13 (.iload 6) [] := zat_of zP_115 rfl
theorem zi_115_13 : zat 115 13 14 (.iconst 1) [] := zat_of zP_115 rfl
theorem zi_115_14 : zat 115 14 15 (.iadd) [] := zat_of zP_115 rfl
theorem zi_115_15 : zat 115 15 16 (.iload_n 2) [] := zat_of zP_115 rfl
theorem zi_115_16 : zat 115 16 17 (.iastore) [] := zat_of zP_115 rfl
theorem zi_115_17 : zat 115 17 18 (.aload_n 0) [] := zat_of zP_115 rfl
theorem zi_115_18 : zat 115 18 19 (.getfield 7) [4, 0, 677] := zat_of zP_115 rfl
theorem zi_115_19 : zat 115 19 20 (.iload 6) [] := zat_of zP_115 rfl
theorem zi_115_20 : zat 115 20 21 (.iconst 2) [] := zat_of zP_115 rfl
theorem zi_115_21 : zat 115 21 22 (.iadd) [] := zat_of zP_115 rfl
theorem zi_115_22 : zat 115 22 23 (.iload_n 3) [] := zat_of zP_115 rfl
theorem zi_115_23 : zat 115 23 24 (.iastore) [] := zat_of zP_115 rfl
theorem zi_115_24 : zat 115 24 25 (.aload_n 0) [] := zat_of zP_115 rfl
theorem zi_115_25 : zat 115 25 26 (.getfield 7) [4, 0, 677] := zat_of zP_115 rfl
theorem zi_115_26 : zat 115 26 27 (.iload 6) [] := zat_of zP_115 rfl
theorem zi_115_27 : zat 115 27 28 (.iconst 3) [] := zat_of zP_115 rfl
theorem zi_115_28 : zat 115 28 29 (.iadd) [] := zat_of zP_115 rfl
theorem zi_115_29 : zat 115 29 30 (.iload 4) [] := zat_of zP_115 rfl
theorem zi_115_30 : zat 115 30 31 (.iastore) [] := zat_of zP_115 rfl
theorem zi_115_31 : zat 115 31 32 (.aload_n 0) [] := zat_of zP_115 rfl
theorem zi_115_32 : zat 115 32 33 (.getfield 7) [4, 0, 677] := zat_of zP_115 rfl
theorem zi_115_33 : zat 115 33 34 (.iload 6) [] := zat_of zP_115 rfl
theorem zi_115_34 : zat 115 34 35 (.iconst 4) [] := zat_of zP_115 rfl
theorem zi_115_35 : zat 115 35 36 (.iadd) [] := zat_of zP_115 rfl
theorem zi_115_36 : zat 115 36 37 (.iload 5) [] := zat_of zP_115 rfl
theorem zi_115_37 : zat 115 37 38 (.iastore) [] := zat_of zP_115 rfl
theorem zi_115_38 : zat 115 38 39 (.aload_n 0) [] := zat_of zP_115 rfl
theorem zi_115_39 : zat 115 39 40 (.getfield 7) [4, 0, 677] := zat_of zP_115 rfl
theorem zi_115_40 : zat 115 40 41 (.iload 6) [] := zat_of zP_115 rfl
theorem zi_115_41 : zat 115 41 42 (.iconst 5) [] := zat_of zP_115 rfl
theorem zi_115_42 : zat 115 42 43 (.iadd) [] := zat_of zP_115 rfl
theorem zi_115_43 : zat 115 43 44 (.bipush (-4)) [] := zat_of zP_115 rfl
theorem zi_115_44 : zat 115 44 45 (.iastore) [] := zat_of zP_115 rfl
theorem zi_115_45 : zat 115 45 46 (.aload_n 0) [] := zat_of zP_115 rfl
theorem zi_115_46 : zat 115 46 47 (.dup) [] := zat_of zP_115 rfl
theorem zi_115_47 : zat 115 47 48 (.getfield 71) [4, 1, 678] := zat_of zP_115 rfl
theorem zi_115_48 : zat 115 48 49 (.iconst 1) [] := zat_of zP_115 rfl
theorem zi_115_49 : zat 115 49 50 (.iadd) [] := zat_of zP_115 rfl
theorem zi_115_50 : zat 115 50 51 (.putfield 71) [4, 1, 678] := zat_of zP_115 rfl
theorem zi_115_51 : zat 115 51 52 (.return_) [] := zat_of zP_115 rfl
theorem zP_116 : zP 116 = zk_116 := rfl
theorem zi_116_0 : zat 116 0 1 (.iload_n 1) [] := zat_of zP_116 rfl
theorem zi_116_1 : zat 116 1 2 (.i2l) [] := zat_of zP_116 rfl
theorem zi_116_2 : zat 116 2 3 (.lconst 0) [] := zat_of zP_116 rfl
theorem zi_116_3 : zat 116 3 4 (.ldc2_w 78) [3, 0, 766] := zat_of zP_116 rfl
theorem zi_116_4 : zat 116 4 5 (.invokestatic 74) [112, 767, 768] := zat_of zP_116 rfl
theorem zi_116_5 : zat 116 5 6 (.ifCond .eq 31) [18] := zat_of zP_116 rfl
theorem zi_116_6 : zat 116 6 7 (.iload_n 2) [] := zat_of zP_116 rfl
theorem zi_116_7 : zat 116 7 8 (.i2l) [] := zat_of zP_116 rfl
theorem zi_116_8 : zat 116 8 9 (.ldc2_w 78) [3, 0, 766] := zat_of zP_116 rfl
theorem zi_116_9 : zat 116 9 10 (.ldc2_w 80) [9, 0, 770] := zat_of zP_116 rfl
theorem zi_116_10 : zat 116 10 11 (.invokestatic 74) [112, 767, 768] := zat_of zP_116 rfl
theorem zi_116_11 : zat 116 11 12 (.ifCond .eq 17) [18] := zat_of zP_116 rfl
theorem zi_116_12 : zat 116 12 13 (.iload_n 3) [] := zat_of zP_116 rfl
theorem zi_116_13 : zat 116 13 14 (.i2l) [] := zat_of zP_116 rfl
theorem zi_116_14 : zat 116 14 15 (.ldc2_w 78) [3, 0, 766] := zat_of zP_116 rfl
theorem zi_116_15 : zat 116 15 16 (.ldc2_w 80) [9, 0, 770] := zat_of zP_116 rfl
theorem zi_116_16 : zat 116 16 17 (.invokestatic 74) [112, 767, 768] := zat_of zP_116 rfl
theorem zi_116_17 : zat 116 17 18 (.ifCond .ne 5) [20] := zat_of zP_116 rfl
theorem zi_116_18 : zat 116 18 19 (.iconst (-1)) [] := zat_of zP_116 rfl
theorem zi_116_19 : zat 116 19 20 (.ireturn) [] := zat_of zP_116 rfl
theorem zi_116_20 : zat 116 20 21 (.aload_n 0) [] := zat_of zP_116 rfl
theorem zi_116_21 : zat 116 21 22 (.getfield 71) [4, 1, 678] := zat_of zP_116 rfl
theorem zi_116_22 : zat 116 22 23 (.bipush 12) [] := zat_of zP_116 rfl
theorem zi_116_23 : zat 116 23 24 (.if_icmp .ne 6) [26] := zat_of zP_116 rfl
theorem zi_116_24 : zat 116 24 25 (.bipush (-3)) [] := zat_of zP_116 rfl
theorem zi_116_25 : zat 116 25 26 (.ireturn) [] := zat_of zP_116 rfl
theorem zi_116_26 : zat 116 26 27 (.aload_n 0) [] := zat_of zP_116 rfl
theorem zi_116_27 : zat 116 27 28 (.iload_n 1) [] := zat_of zP_116 rfl
theorem zi_116_28 : zat 116 28 29 (.iload_n 2) [] := zat_of zP_116 rfl
theorem zi_116_29 : zat 116 29 30 (.iload_n 3) [] := zat_of zP_116 rfl
theorem zi_116_30 : zat 116 30 31 (.iconst 0) [] := zat_of zP_116 rfl
theorem zi_116_31 : zat 116 31 32 (.iconst 0) [] := zat_of zP_116 rfl
theorem zi_116_32 : zat 116 32 33 (.invokevirtual 82) [115, 771, 773, 24] := zat_of zP_116 rfl
theorem zi_116_33 : zat 116 33 34 (.aload_n 0) [] := zat_of zP_116 rfl
theorem zi_116_34 : zat 116 34 35 (.getfield 71) [4, 1, 678] := zat_of zP_116 rfl
theorem zi_116_35 : zat 116 35 36 (.iconst 1) [] := zat_of zP_116 rfl
theorem zi_116_36 : zat 116 36 37 (.isub) [] := zat_of zP_116 rfl
theorem zi_116_37 : zat 116 37 38 (.ireturn) [] := zat_of zP_116 rfl
theorem zP_117 : zP 117 = zk_117 := rfl
theorem zi_117_0 : zat 117 0 1 (.aload_n 0) [] := zat_of zP_117 rfl
theorem zi_117_1 : zat 117 1 2 (.iload_n 1) [] := zat_of zP_117 rfl
theorem zi_117_2 : zat 117 2 3 (.invokevirtual 86) [113, 779, 781, 25] := zat_of zP_117 rfl
theorem zi_117_3 : zat 117 3 4 (.ifCond .eq 31) [22] := zat_of zP_117 rfl
theorem zi_117_4 : zat 117 4 5 (.iload_n 2) [] := zat_of zP_117 rfl
theorem zi_117_5 : zat 117 5 6 (.i2l) [] := zat_of zP_117 rfl
theorem zi_117_6 : zat 117 6 7 (.lconst 0) [] := zat_of zP_117 rfl
theorem zi_117_7 : zat 117 7 8 (.lconst 1) [] := zat_of zP_117 rfl
theorem zi_117_8 : zat 117 8 9 (.invokestatic 74) [112, 767, 768] := zat_of zP_117 rfl
theorem zi_117_9 : zat 117 9 10 (.ifCond .eq 21) [22] := zat_of zP_117 rfl
theorem zi_117_10 : zat 117 10 11 (.iload_n 3) [] := zat_of zP_117 rfl
theorem zi_117_11 : zat 117 11 12 (.i2l) [] := zat_of zP_117 rfl
theorem zi_117_12 : zat 117 12 13 (.lconst 0) [] := zat_of zP_117 rfl
theorem zi_117_13 : zat 117 13 14 (.aload_n 0) [] := zat_of zP_117 rfl
theorem zi_117_14 : zat 117 14 15 (.iload_n 1) [] := zat_of zP_117 rfl
theorem zi_117_15 : zat 117 15 16 (.iload_n 2) [] := zat_of zP_117 rfl
theorem zi_117_16 : zat 117 16 17 (.invokevirtual 90) [114, 783, 785, 26] := zat_of zP_117 rfl
theorem zi_117_17 : zat 117 17 18 (.iconst 1) [] := zat_of zP_117 rfl
theorem zi_117_18 : zat 117 18 19 (.isub) [] := zat_of zP_117 rfl
theorem zi_117_19 : zat 117 19 20 (.i2l) [] := zat_of zP_117 rfl
theorem zi_117_20 : zat 117 20 21 (.invokestatic 74) [112, 767, 768] := zat_of zP_117 rfl
theorem zi_117_21 : zat 117 21 22 (.ifCond .ne 5) [24] := zat_of zP_117 rfl
theorem zi_117_22 : zat 117 22 23 (.iconst (-1)) [] := zat_of zP_117 rfl
theorem zi_117_23 : zat 117 23 24 (.ireturn) [] := zat_of zP_117 rfl
theorem zi_117_24 : zat 117 24 25 (.aload_n 0) [] := zat_of zP_117 rfl
theorem zi_117_25 : zat 117 25 26 (.getfield 7) [4, 0, 677] := zat_of zP_117 rfl
theorem zi_117_26 : zat 117 26 27 (.bipush 6) [] := zat_of zP_117 rfl
theorem zi_117_27 : zat 117 27 28 (.iload_n 1) [] := zat_of zP_117 rfl
theorem zi_117_28 : zat 117 28 29 (.imul) [] := zat_of zP_117 rfl
theorem zi_117_29 : zat 117 29 30 (.iconst 3) [] := zat_of zP_117 rfl
theorem zi_117_30 : zat 117 30 31 (.iadd) [] := zat_of zP_117 rfl
theorem zi_117_31 : zat 117 31 32 (.iload_n 2) [] := zat_of zP_117 rfl
theorem zi_117_32 : zat 117 32 33 (.iadd) [] := zat_of zP_117 rfl
theorem zi_117_33 : zat 117 33 34 (.iaload) [] := zat_of zP_117 rfl
theorem zi_117_34 : zat 117 34 35 (.istore 4) [] := zat_of zP_117 rfl
theorem zi_117_35 : zat 117 35 36 (.aload_n 0) [] := zat_of zP_117 rfl
theorem zi_117_36 : zat 117 36 37 (.getfield 7) [4, 0, 677] := zat_of zP_117 rfl
theorem zi_117_37 : zat 117 37 38 (.bipush 6) [] := zat_of zP_117 rfl
theorem zi_117_38 : zat 117 38 39 (.iload_n 1) [] := zat_of zP_117 rfl
theorem zi_117_39 : zat 117 39 40 (.imul) [] := zat_of zP_117 rfl
theorem zi_117_40 : zat 117 40 41 (.iconst 3) [] := zat_of zP_117 rfl
theorem zi_117_41 : zat 117 41 42 (.iadd) [] := zat_of zP_117 rfl
theorem zi_117_42 : zat 117 42 43 (.iload_n 2) [] := zat_of zP_117 rfl
theorem zi_117_43 : zat 117 43 44 (.iadd) [] := zat_of zP_117 rfl
theorem zi_117_44 : zat 117 44 45 (.iload_n 3) [] := zat_of zP_117 rfl
theorem zi_117_45 : zat 117 45 46 (.iastore) [] := zat_of zP_117 rfl
theorem zi_117_46 : zat 117 46 47 (.iload 4) [] := zat_of zP_117 rfl
theorem zi_117_47 : zat 117 47 48 (.ireturn) [] := zat_of zP_117 rfl
theorem zP_118 : zP 118 = zk_118 := rfl
theorem zi_118_0 : zat 118 0 1 (.bipush (-4)) [] := zat_of zP_118 rfl
theorem zi_118_1 : zat 118 1 2 (.istore_n 2) [] := zat_of zP_118 rfl
theorem zi_118_2 : zat 118 2 3 (.iconst 0) [] := zat_of zP_118 rfl
theorem zi_118_3 : zat 118 3 4 (.istore_n 3) [] := zat_of zP_118 rfl
theorem zi_118_4 : zat 118 4 5 (.iload_n 3) [] := zat_of zP_118 rfl
theorem zi_118_5 : zat 118 5 6 (.aload_n 0) [] := zat_of zP_118 rfl
theorem zi_118_6 : zat 118 6 7 (.getfield 94) [4, 4, 681] := zat_of zP_118 rfl
theorem zi_118_7 : zat 118 7 8 (.if_icmp .ge 25) [20] := zat_of zP_118 rfl
theorem zi_118_8 : zat 118 8 9 (.aload_n 0) [] := zat_of zP_118 rfl
theorem zi_118_9 : zat 118 9 10 (.getfield 13) [4, 2, 679] := zat_of zP_118 rfl
theorem zi_118_10 : zat 118 10 11 (.iload_n 3) [] := zat_of zP_118 rfl
theorem zi_118_11 : zat 118 11 12 (.iaload) [] := zat_of zP_118 rfl
theorem zi_118_12 : zat 118 12 13 (.iload_n 1) [] := zat_of zP_118 rfl
theorem zi_118_13 : zat 118 13 14 (.if_icmp .ne 7) [16] := zat_of zP_118 rfl
theorem zi_118_14 : zat 118 14 15 (.iload_n 3) [] := zat_of zP_118 rfl
theorem zi_118_15 : zat 118 15 16 (.goto 4) [17] := zat_of zP_118 rfl
theorem zi_118_16 : zat 118 16 17 (.iload_n 2) [] := zat_of zP_118 rfl
theorem zi_118_17 : zat 118 17 18 (.istore_n 2) [] := zat_of zP_118 rfl
theorem zi_118_18 : zat 118 18 19 (.iinc 3 1) [] := zat_of zP_118 rfl
theorem zi_118_19 : zat 118 19 20 (.goto (-27)) [4] := zat_of zP_118 rfl
theorem zi_118_20 : zat 118 20 21 (.iload_n 2) [] := zat_of zP_118 rfl
theorem zi_118_21 : zat 118 21 22 (.ireturn) [] := zat_of zP_118 rfl
theorem zP_119 : zP 119 = zk_119 := rfl
theorem zi_119_0 : zat 119 0 1 (.aload_n 0) [] := zat_of zP_119 rfl
theorem zi_119_1 : zat 119 1 2 (.iload_n 1) [] := zat_of zP_119 rfl
theorem zi_119_2 : zat 119 2 3 (.invokevirtual 86) [113, 779, 781, 25] := zat_of zP_119 rfl
theorem zi_119_3 : zat 119 3 4 (.ifCond .eq 15) [10] := zat_of zP_119 rfl
theorem zi_119_4 : zat 119 4 5 (.iload_n 2) [] := zat_of zP_119 rfl
theorem zi_119_5 : zat 119 5 6 (.i2l) [] := zat_of zP_119 rfl
theorem zi_119_6 : zat 119 6 7 (.lconst 0) [] := zat_of zP_119 rfl
theorem zi_119_7 : zat 119 7 8 (.ldc2_w 97) [7, 0, 791] := zat_of zP_119 rfl
theorem zi_119_8 : zat 119 8 9 (.invokestatic 74) [112, 767, 768] := zat_of zP_119 rfl
theorem zi_119_9 : zat 119 9 10 (.ifCond .ne 5) [12] := zat_of zP_119 rfl
theorem zi_119_10 : zat 119 10 11 (.iconst (-1)) [] := zat_of zP_119 rfl
theorem zi_119_11 : zat 119 11 12 (.ireturn) [] := zat_of zP_119 rfl
theorem zi_119_12 : zat 119 12 13 (.aload_n 0) [] := zat_of zP_119 rfl
theorem zi_119_13 : zat 119 13 14 (.iload_n 1) [] := zat_of zP_119 rfl
theorem zi_119_14 : zat 119 14 15 (.invokevirtual 99) [118, 792, 794, 27] := zat_of zP_119 rfl
theorem zi_119_15 : zat 119 15 16 (.istore_n 3) [] := zat_of zP_119 rfl
theorem zi_119_16 : zat 119 16 17 (.iload_n 2) [] := zat_of zP_119 rfl
theorem zi_119_17 : zat 119 17 18 (.iconst 5) [] := zat_of zP_119 rfl
theorem zi_119_18 : zat 119 18 19 (.if_icmp .ge 17) [28] := zat_of zP_119 rfl
theorem zi_119_19 : zat 119 19 20 (.aload_n 0) [] := zat_of zP_119 rfl
theorem zi_119_20 : zat 119 20 21 (.getfield 7) [4, 0, 677] := zat_of zP_119 rfl
theorem zi_119_21 : zat 119 21 22 (.bipush 6) [] := zat_of zP_119 rfl
theorem zi_119_22 : zat 119 22 23 (.iload_n 1) [] := zat_of zP_119 rfl
theorem zi_119_23 : zat 119 23 24 (.imul) [] := zat_of zP_119 rfl
theorem zi_119_24 : zat 119 24 25 (.iload_n 2) [] := zat_of zP_119 rfl
theorem zi_119_25 : zat 119 25 26 (.iadd) [] := zat_of zP_119 rfl
theorem zi_119_26 : zat 119 26 27 (.iaload) [] := zat_of zP_119 rfl
theorem zi_119_27 : zat 119 27 28 (.goto 47) [53] := zat_of zP_119 rfl
theorem zi_119_28 : zat 119 28 29 (.iload_n 2) [] := zat_of zP_119 rfl
theorem zi_119_29 : zat 119 29 30 (.iconst 5) [] := zat_of zP_119 rfl
theorem zi_119_30 : zat 119 30 31 (.if_icmp .ne 7) [33] := zat_of zP_119 rfl
theorem zi_119_31 : zat 119 31 32 (.iload_n 3) [] := zat_of zP_119 rfl
theorem zi_119_32 : zat 119 32 33 (.goto 38) [53] := zat_of zP_119 rfl
theorem zi_119_33 : zat 119 33 34 (.iload_n 2) [] := zat_of zP_119 rfl
theorem zi_119_34 : zat 119 34 35 (.bipush 6) [] := zat_of zP_119 rfl
theorem zi_119_35 : zat 119 35 36 (.if_icmp .ne 21) [45] := zat_of zP_119 rfl
theorem zi_119_36 : zat 119 36 37 (.iload_n 3) [] := zat_of zP_119 rfl
theorem zi_119_37 : zat 119 37 38 (.ifCond .ge 8) [40] := zat_of zP_119 rfl
theorem zi_119_38 : zat 119 38 39 (.bipush (-4)) [] := zat_of zP_119 rfl
theorem zi_119_39 : zat 119 39 40 (.goto 23) [53] := zat_of zP_119 rfl
theorem zi_119_40 : zat 119 40 41 (.aload_n 0) [] := zat_of zP_119 rfl
theorem zi_119_41 : zat 119 41 42 (.getfield 16) [4, 3, 680] := zat_of zP_119 rfl
theorem zi_119_42 : zat 119 42 43 (.iload_n 3) [] := zat_of zP_119 rfl
theorem zi_119_43 : zat 119 43 44 (.iaload) [] := zat_of zP_119 rfl
theorem zi_119_44 : zat 119 44 45 (.goto 14) [53] := zat_of zP_119 rfl
theorem zi_119_45 : zat 119 45 46 (.aload_n 0) [] := zat_of zP_119 rfl
theorem zi_119_46 : zat 119 46 47 (.getfield 7) [4, 0, 677] := zat_of zP_119 rfl
theorem zi_119_47 : zat 119 47 48 (.bipush 6) [] := zat_of zP_119 rfl
theorem zi_119_48 : zat 119 48 49 (.iload_n 1) [] := zat_of zP_119 rfl
theorem zi_119_49 : zat 119 49 50 (.imul) [] := zat_of zP_119 rfl
theorem zi_119_50 : zat 119 50 51 (.iconst 5) [] := zat_of zP_119 rfl
theorem zi_119_51 : zat 119 51 52 (.iadd) [] := zat_of zP_119 rfl
theorem zi_119_52 : zat 119 52 53 (.iaload) [] := zat_of zP_119 rfl
theorem zi_119_53 : zat 119 53 54 (.ireturn) [] := zat_of zP_119 rfl
theorem zP_120 : zP 120 = zk_120 := rfl
theorem zi_120_0 : zat 120 0 1 (.aload_n 0) [] := zat_of zP_120 rfl
theorem zi_120_1 : zat 120 1 2 (.iload_n 1) [] := zat_of zP_120 rfl
theorem zi_120_2 : zat 120 2 3 (.invokevirtual 86) [113, 779, 781, 25] := zat_of zP_120 rfl
theorem zi_120_3 : zat 120 3 4 (.ifCond .eq 15) [10] := zat_of zP_120 rfl
theorem zi_120_4 : zat 120 4 5 (.iload_n 2) [] := zat_of zP_120 rfl
theorem zi_120_5 : zat 120 5 6 (.i2l) [] := zat_of zP_120 rfl
theorem zi_120_6 : zat 120 6 7 (.ldc2_w 103) [1, 1, 800] := zat_of zP_120 rfl
theorem zi_120_7 : zat 120 7 8 (.lconst 1) [] := zat_of zP_120 rfl
theorem zi_120_8 : zat 120 8 9 (.invokestatic 74) [112, 767, 768] := zat_of zP_120 rfl
theorem zi_120_9 : zat 120 9 10 (.ifCond .ne 5) [12] := zat_of zP_120 rfl
theorem zi_120_10 : zat 120 10 11 (.iconst (-1)) [] := zat_of zP_120 rfl
theorem zi_120_11 : zat 120 11 12 (.ireturn) [] := zat_of zP_120 rfl
theorem zi_120_12 : zat 120 12 13 (.aload_n 0) [] := zat_of zP_120 rfl
theorem zi_120_13 : zat 120 13 14 (.iload_n 1) [] := zat_of zP_120 rfl
theorem zi_120_14 : zat 120 14 15 (.invokevirtual 99) [118, 792, 794, 27] := zat_of zP_120 rfl
theorem zi_120_15 : zat 120 15 16 (.ifCond .lt 6) [18] := zat_of zP_120 rfl
theorem zi_120_16 : zat 120 16 17 (.bipush (-2)) [] := zat_of zP_120 rfl
theorem zi_120_17 : zat 120 17 18 (.ireturn) [] := zat_of zP_120 rfl
theorem zi_120_18 : zat 120 18 19 (.aload_n 0) [] := zat_of zP_120 rfl
theorem zi_120_19 : zat 120 19 20 (.getfield 7) [4, 0, 677] := zat_of zP_120 rfl
theorem zi_120_20 : zat 120 20 21 (.bipush 6) [] := zat_of zP_120 rfl
theorem zi_120_21 : zat 120 21 22 (.iload_n 1) [] := zat_of zP_120 rfl
theorem zi_120_22 : zat 120 22 23 (.imul) [] := zat_of zP_120 rfl
theorem zi_120_23 : zat 120 23 24 (.iconst 5) [] := zat_of zP_120 rfl
theorem zi_120_24 : zat 120 24 25 (.iadd) [] := zat_of zP_120 rfl
theorem zi_120_25 : zat 120 25 26 (.iaload) [] := zat_of zP_120 rfl
theorem zi_120_26 : zat 120 26 27 (.istore_n 3) [] := zat_of zP_120 rfl
theorem zi_120_27 : zat 120 27 28 (.aload_n 0) [] := zat_of zP_120 rfl
theorem zi_120_28 : zat 120 28 29 (.getfield 7) [4, 0, 677] := zat_of zP_120 rfl
theorem zi_120_29 : zat 120 29 30 (.bipush 6) [] := zat_of zP_120 rfl
theorem zi_120_30 : zat 120 30 31 (.iload_n 1) [] := zat_of zP_120 rfl
theorem zi_120_31 : zat 120 31 32 (.imul) [] := zat_of zP_120 rfl
theorem zi_120_32 : zat 120 32 33 (.iconst 5) [] := zat_of zP_120 rfl
theorem zi_120_33 : zat 120 33 34 (.iadd) [] := zat_of zP_120 rfl
theorem zi_120_34 : zat 120 34 35 (.iload_n 2) [] := zat_of zP_120 rfl
theorem zi_120_35 : zat 120 35 36 (.ifCond .ge 8) [38] := zat_of zP_120 rfl
theorem zi_120_36 : zat 120 36 37 (.bipush (-4)) [] := zat_of zP_120 rfl
theorem zi_120_37 : zat 120 37 38 (.goto 4) [39] := zat_of zP_120 rfl
theorem zi_120_38 : zat 120 38 39 (.iload_n 2) [] := zat_of zP_120 rfl
theorem zi_120_39 : zat 120 39 40 (.iastore) [] := zat_of zP_120 rfl
theorem zi_120_40 : zat 120 40 41 (.iload_n 3) [] := zat_of zP_120 rfl
theorem zi_120_41 : zat 120 41 42 (.ireturn) [] := zat_of zP_120 rfl
theorem zP_121 : zP 121 = zk_121 := rfl
theorem zi_121_0 : zat 121 0 1 (.iload_n 3) [] := zat_of zP_121 rfl
theorem zi_121_1 : zat 121 1 2 (.i2l) [] := zat_of zP_121 rfl
theorem zi_121_2 : zat 121 2 3 (.lconst 1) [] := zat_of zP_121 rfl
theorem zi_121_3 : zat 121 3 4 (.ldc2_w 105) [8, 0, 805] := zat_of zP_121 rfl
theorem zi_121_4 : zat 121 4 5 (.invokestatic 74) [112, 767, 768] := zat_of zP_121 rfl
theorem zi_121_5 : zat 121 5 6 (.ifCond .ne 5) [8] := zat_of zP_121 rfl
theorem zi_121_6 : zat 121 6 7 (.iconst (-1)) [] := zat_of zP_121 rfl
theorem zi_121_7 : zat 121 7 8 (.ireturn) [] := zat_of zP_121 rfl
theorem zi_121_8 : zat 121 8 9 (.iload_n 3) [] := zat_of zP_121 rfl
theorem zi_121_9 : zat 121 9 10 (.iconst 1) [] := zat_of zP_121 rfl
theorem zi_121_10 : zat 121 10 11 (.isub) [] := zat_of zP_121 rfl
theorem zi_121_11 : zat 121 11 12 (.istore 4) [] := zat_of zP_121 rfl
theorem zi_121_12 : zat 121 12 13 (.iload 4) [] := zat_of zP_121 rfl
theorem zi_121_13 : zat 121 13 14 (.ifCond .lt 34) [29] := zat_of zP_121 rfl
theorem zi_121_14 : zat 121 14 15 (.lload_n 1) [] := zat_of zP_121 rfl
theorem zi_121_15 : zat 121 15 16 (.bipush 8) [] := zat_of zP_121 rfl
theorem zi_121_16 : zat 121 16 17 (.iload 4) [] := zat_of zP_121 rfl
theorem zi_121_17 : zat 121 17 18 (.imul) [] := zat_of zP_121 rfl
theorem zi_121_18 : zat 121 18 19 (.lshr) [] := zat_of zP_121 rfl
theorem zi_121_19 : zat 121 19 20 (.ldc2_w 107) [255, 0, 806] := zat_of zP_121 rfl
theorem zi_121_20 : zat 121 20 21 (.land) [] := zat_of zP_121 rfl
theorem zi_121_21 : zat 121 21 22 (.ldc2_w 109) [32, 0, 807] := zat_of zP_121 rfl
theorem zi_121_22 : zat 121 22 23 (.ldc2_w 111) [126, 0, 808] := zat_of zP_121 rfl
theorem zi_121_23 : zat 121 23 24 (.invokestatic 74) [112, 767, 768] := zat_of zP_121 rfl
theorem zi_121_24 : zat 121 24 25 (.ifCond .ne 5) [27] := zat_of zP_121 rfl
theorem zi_121_25 : zat 121 25 26 (.iconst (-1)) [] := zat_of zP_121 rfl
theorem zi_121_26 : zat 121 26 27 (.ireturn) [] := zat_of zP_121 rfl
theorem zi_121_27 : zat 121 27 28 (.iinc 4 (-1)) [] := zat_of zP_121 rfl
theorem zi_121_28 : zat 121 28 29 (.goto (-33)) [12] := zat_of zP_121 rfl
theorem zi_121_29 : zat 121 29 30 (.aload_n 0) [] := zat_of zP_121 rfl
theorem zi_121_30 : zat 121 30 31 (.getfield 113) [4, 9, 686] := zat_of zP_121 rfl
theorem zi_121_31 : zat 121 31 32 (.iload_n 3) [] := zat_of zP_121 rfl
theorem zi_121_32 : zat 121 32 33 (.iadd) [] := zat_of zP_121 rfl
theorem zi_121_33 : zat 121 33 34 (.bipush 80) [] := zat_of zP_121 rfl
theorem zi_121_34 : zat 121 34 35 (.if_icmp .le 6) [37] := zat_of zP_121 rfl
theorem zi_121_35 : zat 121 35 36 (.bipush (-3)) [] := zat_of zP_121 rfl
theorem zi_121_36 : zat 121 36 37 (.ireturn) [] := zat_of zP_121 rfl
theorem zi_121_37 : zat 121 37 38 (.iload_n 3) [] := zat_of zP_121 rfl
theorem zi_121_38 : zat 121 38 39 (.iconst 1) [] := zat_of zP_121 rfl
theorem zi_121_39 : zat 121 39 40 (.isub) [] := zat_of zP_121 rfl
theorem zi_121_40 : zat 121 40 41 (.istore 4) [] := zat_of zP_121 rfl
theorem zi_121_41 : zat 121 41 42 (.iload 4) [] := zat_of zP_121 rfl
theorem zi_121_42 : zat 121 42 43 (.ifCond .lt 40) [64] := zat_of zP_121 rfl
theorem zi_121_43 : zat 121 43 44 (.aload_n 0) [] := zat_of zP_121 rfl
theorem zi_121_44 : zat 121 44 45 (.getfield 26) [4, 8, 685] := zat_of zP_121 rfl
theorem zi_121_45 : zat 121 45 46 (.aload_n 0) [] := zat_of zP_121 rfl
theorem zi_121_46 : zat 121 46 47 (.getfield 113) [4, 9, 686] := zat_of zP_121 rfl
theorem zi_121_47 : zat 121 47 48 (.lload_n 1) [] := zat_of zP_121 rfl
theorem zi_121_48 : zat 121 48 49 (.bipush 8) [] := zat_of zP_121 rfl
theorem zi_121_49 : zat 121 49 50 (.iload 4) [] := zat_of zP_121 rfl
theorem zi_121_50 : zat 121 50 51 (.imul) [] := zat_of zP_121 rfl
theorem zi_121_51 : zat 121 51 52 (.lshr) [] := zat_of zP_121 rfl
theorem zi_121_52 : zat 121 52 53 (.ldc2_w 107) [255, 0, 806] := zat_of zP_121 rfl
theorem zi_121_53 : zat 121 53 54 (.land) [] := zat_of zP_121 rfl
theorem zi_121_54 : zat 121 54 55 (.l2i) [] := zat_of zP_121 rfl
theorem zi_121_55 : zat 121 55 56 (.iastore) [] := zat_of zP_121 rfl
theorem zi_121_56 : zat 121 56 57 (.aload_n 0) [] := zat_of zP_121 rfl
theorem zi_121_57 : zat 121 57 58 (.dup) [] := zat_of zP_121 rfl
theorem zi_121_58 : zat 121 58 59 (.getfield 113) [4, 9, 686] := zat_of zP_121 rfl
theorem zi_121_59 : zat 121 59 60 (.iconst 1) [] := zat_of zP_121 rfl
theorem zi_121_60 : zat 121 60 61 (.iadd) [] := zat_of zP_121 rfl
theorem zi_121_61 : zat 121 61 62 (.putfield 113) [4, 9, 686] := zat_of zP_121 rfl
theorem zi_121_62 : zat 121 62 63 (.iinc 4 (-1)) [] := zat_of zP_121 rfl
theorem zi_121_63 : zat 121 63 64 (.goto (-39)) [41] := zat_of zP_121 rfl
theorem zi_121_64 : zat 121 64 65 (.aload_n 0) [] := zat_of zP_121 rfl
theorem zi_121_65 : zat 121 65 66 (.getfield 113) [4, 9, 686] := zat_of zP_121 rfl
theorem zi_121_66 : zat 121 66 67 (.ireturn) [] := zat_of zP_121 rfl
theorem zP_122 : zP 122 = zk_122 := rfl
theorem zi_122_0 : zat 122 0 1 (.aload_n 0) [] := zat_of zP_122 rfl
theorem zi_122_1 : zat 122 1 2 (.getfield 116) [4, 10, 687] := zat_of zP_122 rfl
theorem zi_122_2 : zat 122 2 3 (.aload_n 0) [] := zat_of zP_122 rfl
theorem zi_122_3 : zat 122 3 4 (.getfield 113) [4, 9, 686] := zat_of zP_122 rfl
theorem zi_122_4 : zat 122 4 5 (.if_icmp .ge 30) [19] := zat_of zP_122 rfl
theorem zi_122_5 : zat 122 5 6 (.aload_n 0) [] := zat_of zP_122 rfl
theorem zi_122_6 : zat 122 6 7 (.getfield 26) [4, 8, 685] := zat_of zP_122 rfl
theorem zi_122_7 : zat 122 7 8 (.aload_n 0) [] := zat_of zP_122 rfl
theorem zi_122_8 : zat 122 8 9 (.getfield 116) [4, 10, 687] := zat_of zP_122 rfl
theorem zi_122_9 : zat 122 9 10 (.iaload) [] := zat_of zP_122 rfl
theorem zi_122_10 : zat 122 10 11 (.bipush 32) [] := zat_of zP_122 rfl
theorem zi_122_11 : zat 122 11 12 (.if_icmp .ne 16) [19] := zat_of zP_122 rfl
theorem zi_122_12 : zat 122 12 13 (.aload_n 0) [] := zat_of zP_122 rfl
theorem zi_122_13 : zat 122 13 14 (.dup) [] := zat_of zP_122 rfl
theorem zi_122_14 : zat 122 14 15 (.getfield 116) [4, 10, 687] := zat_of zP_122 rfl
theorem zi_122_15 : zat 122 15 16 (.iconst 1) [] := zat_of zP_122 rfl
theorem zi_122_16 : zat 122 16 17 (.iadd) [] := zat_of zP_122 rfl
theorem zi_122_17 : zat 122 17 18 (.putfield 116) [4, 10, 687] := zat_of zP_122 rfl
theorem zi_122_18 : zat 122 18 19 (.goto (-35)) [0] := zat_of zP_122 rfl
theorem zi_122_19 : zat 122 19 20 (.aload_n 0) [] := zat_of zP_122 rfl
theorem zi_122_20 : zat 122 20 21 (.getfield 116) [4, 10, 687] := zat_of zP_122 rfl
theorem zi_122_21 : zat 122 21 22 (.aload_n 0) [] := zat_of zP_122 rfl
theorem zi_122_22 : zat 122 22 23 (.getfield 113) [4, 9, 686] := zat_of zP_122 rfl
theorem zi_122_23 : zat 122 23 24 (.if_icmp .ge 15) [30] := zat_of zP_122 rfl
theorem zi_122_24 : zat 122 24 25 (.aload_n 0) [] := zat_of zP_122 rfl
theorem zi_122_25 : zat 122 25 26 (.getfield 26) [4, 8, 685] := zat_of zP_122 rfl
theorem zi_122_26 : zat 122 26 27 (.aload_n 0) [] := zat_of zP_122 rfl
theorem zi_122_27 : zat 122 27 28 (.getfield 116) [4, 10, 687] := zat_of zP_122 rfl
theorem zi_122_28 : zat 122 28 29 (.iaload) [] := zat_of zP_122 rfl
theorem zi_122_29 : zat 122 29 30 (.goto 4) [31] := zat_of zP_122 rfl
theorem zi_122_30 : zat 122 30 31 (.iconst (-1)) [] := zat_of zP_122 rfl
theorem zi_122_31 : zat 122 31 32 (.ireturn) [] := zat_of zP_122 rfl
theorem zP_123 : zP 123 = zk_123 := rfl
theorem zi_123_0 : zat 123 0 1 (.aload_n 0) [] := zat_of zP_123 rfl
theorem zi_123_1 : zat 123 1 2 (.invokevirtual 119) [122, 825, 827, 31] := zat_of zP_123 rfl
theorem zi_123_2 : zat 123 2 3 (.bipush 48) [] := zat_of zP_123 rfl
theorem zi_123_3 : zat 123 3 4 (.isub) [] := zat_of zP_123 rfl
theorem zi_123_4 : zat 123 4 5 (.istore 4) [] := zat_of zP_123 rfl
theorem zi_123_5 : zat 123 5 6 (.iload 4) [] := zat_of zP_123 rfl
theorem zi_123_6 : zat 123 6 7 (.i2l) [] := zat_of zP_123 rfl
theorem zi_123_7 : zat 123 7 8 (.iload_n 2) [] := zat_of zP_123 rfl
theorem zi_123_8 : zat 123 8 9 (.i2l) [] := zat_of zP_123 rfl
theorem zi_123_9 : zat 123 9 10 (.iload_n 3) [] := zat_of zP_123 rfl
theorem zi_123_10 : zat 123 10 11 (.i2l) [] := zat_of zP_123 rfl
theorem zi_123_11 : zat 123 11 12 (.invokestatic 74) [112, 767, 768] := zat_of zP_123 rfl
theorem zi_123_12 : zat 123 12 13 (.ifCond .ne 5) [15] := zat_of zP_123 rfl
theorem zi_123_13 : zat 123 13 14 (.iconst 0) [] := zat_of zP_123 rfl
theorem zi_123_14 : zat 123 14 15 (.ireturn) [] := zat_of zP_123 rfl
theorem zi_123_15 : zat 123 15 16 (.aload_n 0) [] := zat_of zP_123 rfl
theorem zi_123_16 : zat 123 16 17 (.getfield 29) [4, 12, 689] := zat_of zP_123 rfl
theorem zi_123_17 : zat 123 17 18 (.iload_n 1) [] := zat_of zP_123 rfl
theorem zi_123_18 : zat 123 18 19 (.iload 4) [] := zat_of zP_123 rfl
theorem zi_123_19 : zat 123 19 20 (.iastore) [] := zat_of zP_123 rfl
theorem zi_123_20 : zat 123 20 21 (.aload_n 0) [] := zat_of zP_123 rfl
theorem zi_123_21 : zat 123 21 22 (.dup) [] := zat_of zP_123 rfl
theorem zi_123_22 : zat 123 22 23 (.getfield 116) [4, 10, 687] := zat_of zP_123 rfl
theorem zi_123_23 : zat 123 23 24 (.iconst 1) [] := zat_of zP_123 rfl
theorem zi_123_24 : zat 123 24 25 (.iadd) [] := zat_of zP_123 rfl
theorem zi_123_25 : zat 123 25 26 (.putfield 116) [4, 10, 687] := zat_of zP_123 rfl
theorem zi_123_26 : zat 123 26 27 (.iconst 1) [] := zat_of zP_123 rfl
theorem zi_123_27 : zat 123 27 28 (.ireturn) [] := zat_of zP_123 rfl
theorem zP_124 : zP 124 = zk_124 := rfl
theorem zi_124_0 : zat 124 0 1 (.aload_n 0) [] := zat_of zP_124 rfl
theorem zi_124_1 : zat 124 1 2 (.iload_n 1) [] := zat_of zP_124 rfl
theorem zi_124_2 : zat 124 2 3 (.iconst 1) [] := zat_of zP_124 rfl
theorem zi_124_3 : zat 124 3 4 (.iadd) [] := zat_of zP_124 rfl
theorem zi_124_4 : zat 124 4 5 (.iconst 3) [] := zat_of zP_124 rfl
theorem zi_124_5 : zat 124 5 6 (.bipush 9) [] := zat_of zP_124 rfl
theorem zi_124_6 : zat 124 6 7 (.invokevirtual 123) [123, 821, 823, 30] := zat_of zP_124 rfl
theorem zi_124_7 : zat 124 7 8 (.ifCond .eq 16) [16] := zat_of zP_124 rfl
theorem zi_124_8 : zat 124 8 9 (.aload_n 0) [] := zat_of zP_124 rfl
theorem zi_124_9 : zat 124 9 10 (.iload_n 1) [] := zat_of zP_124 rfl
theorem zi_124_10 : zat 124 10 11 (.iconst 2) [] := zat_of zP_124 rfl
theorem zi_124_11 : zat 124 11 12 (.iadd) [] := zat_of zP_124 rfl
theorem zi_124_12 : zat 124 12 13 (.iconst 3) [] := zat_of zP_124 rfl
theorem zi_124_13 : zat 124 13 14 (.bipush 9) [] := zat_of zP_124 rfl
theorem zi_124_14 : zat 124 14 15 (.invokevirtual 123) [123, 821, 823, 30] := zat_of zP_124 rfl
theorem zi_124_15 : zat 124 15 16 (.ifCond .ne 5) [18] := zat_of zP_124 rfl
theorem zi_124_16 : zat 124 16 17 (.iconst 0) [] := zat_of zP_124 rfl
theorem zi_124_17 : zat 124 17 18 (.ireturn) [] := zat_of zP_124 rfl
theorem zi_124_18 : zat 124 18 19 (.aload_n 0) [] := zat_of zP_124 rfl
theorem zi_124_19 : zat 124 19 20 (.invokevirtual 119) [122, 825, 827, 31] := zat_of zP_124 rfl
theorem zi_124_20 : zat 124 20 21 (.istore_n 2) [] := zat_of zP_124 rfl
theorem zi_124_21 : zat 124 21 22 (.aload_n 0) [] := zat_of zP_124 rfl
theorem zi_124_22 : zat 124 22 23 (.getfield 29) [4, 12, 689] := zat_of zP_124 rfl
theorem zi_124_23 : zat 124 23 24 (.iload_n 1) [] := zat_of zP_124 rfl
theorem zi_124_24 : zat 124 24 25 (.iload_n 2) [] := zat_of zP_124 rfl
theorem zi_124_25 : zat 124 25 26 (.bipush 112) [] := zat_of zP_124 rfl
theorem zi_124_26 : zat 124 26 27 (.if_icmp .ne 7) [29] := zat_of zP_124 rfl
theorem zi_124_27 : zat 124 27 28 (.iconst 1) [] := zat_of zP_124 rfl
theorem zi_124_28 : zat 124 28 29 (.goto 24) [40] := zat_of zP_124 rfl
theorem zi_124_29 : zat 124 29 30 (.iload_n 2) [] := zat_of zP_124 rfl
theorem zi_124_30 : zat 124 30 31 (.bipush 115) [] := zat_of zP_124 rfl
theorem zi_124_31 : zat 124 31 32 (.if_icmp .ne 7) [34] := zat_of zP_124 rfl
theorem zi_124_32 : zat 124 32 33 (.iconst 2) [] := zat_of zP_124 rfl
theorem zi_124_33 : zat 124 33 34 (.goto 14) [40] := zat_of zP_124 rfl
theorem zi_124_34 : zat 124 34 35 (.iload_n 2) [] := zat_of zP_124 rfl
theorem zi_124_35 : zat 124 35 36 (.bipush 104) [] := zat_of zP_124 rfl
theorem zi_124_36 : zat 124 36 37 (.if_icmp .ne 7) [39] := zat_of zP_124 rfl
theorem zi_124_37 : zat 124 37 38 (.iconst 3) [] := zat_of zP_124 rfl
theorem zi_124_38 : zat 124 38 39 (.goto 4) [40] := zat_of zP_124 rfl
theorem zi_124_39 : zat 124 39 40 (.iconst 0) [] := zat_of zP_124 rfl
theorem zi_124_40 : zat 124 40 41 (.iastore) [] := zat_of zP_124 rfl
theorem zi_124_41 : zat 124 41 42 (.aload_n 0) [] := zat_of zP_124 rfl
theorem zi_124_42 : zat 124 42 43 (.dup) [] := zat_of zP_124 rfl
theorem zi_124_43 : zat 124 43 44 (.getfield 116) [4, 10, 687] := zat_of zP_124 rfl
theorem zi_124_44 : zat 124 44 45 (.aload_n 0) [] := zat_of zP_124 rfl
theorem zi_124_45 : zat 124 45 46 (.getfield 29) [4, 12, 689] := zat_of zP_124 rfl
theorem zi_124_46 : zat 124 46 47 (.iload_n 1) [] := zat_of zP_124 rfl
theorem zi_124_47 : zat 124 47 48 (.iaload) [] := zat_of zP_124 rfl
theorem zi_124_48 : zat 124 48 49 (.ifCond .le 7) [51] := zat_of zP_124 rfl
theorem zi_124_49 : zat 124 49 50 (.iconst 1) [] := zat_of zP_124 rfl
theorem zi_124_50 : zat 124 50 51 (.goto 4) [52] := zat_of zP_124 rfl
theorem zi_124_51 : zat 124 51 52 (.iconst 0) [] := zat_of zP_124 rfl
theorem zi_124_52 : zat 124 52 53 (.iadd) [] := zat_of zP_124 rfl
theorem zi_124_53 : zat 124 53 54 (.putfield 116) [4, 10, 687] := zat_of zP_124 rfl
theorem zi_124_54 : zat 124 54 55 (.aload_n 0) [] := zat_of zP_124 rfl
theorem zi_124_55 : zat 124 55 56 (.getfield 29) [4, 12, 689] := zat_of zP_124 rfl
theorem zi_124_56 : zat 124 56 57 (.iload_n 1) [] := zat_of zP_124 rfl
theorem zi_124_57 : zat 124 57 58 (.iconst 3) [] := zat_of zP_124 rfl
theorem zi_124_58 : zat 124 58 59 (.iadd) [] := zat_of zP_124 rfl
theorem zi_124_59 : zat 124 59 60 (.iconst 0) [] := zat_of zP_124 rfl
theorem zi_124_60 : zat 124 60 61 (.iastore) [] := zat_of zP_124 rfl
theorem zi_124_61 : zat 124 61 62 (.aload_n 0) [] := zat_of zP_124 rfl
theorem zi_124_62 : zat 124 62 63 (.getfield 29) [4, 12, 689] := zat_of zP_124 rfl
theorem zi_124_63 : zat 124 63 64 (.iload_n 1) [] := zat_of zP_124 rfl
theorem zi_124_64 : zat 124 64 65 (.iconst 4) [] := zat_of zP_124 rfl
theorem zi_124_65 : zat 124 65 66 (.iadd) [] := zat_of zP_124 rfl
theorem zi_124_66 : zat 124 66 67 (.iconst 0) [] := zat_of zP_124 rfl
theorem zi_124_67 : zat 124 67 68 (.iastore) [] := zat_of zP_124 rfl
theorem zi_124_68 : zat 124 68 69 (.aload_n 0) [] := zat_of zP_124 rfl
theorem zi_124_69 : zat 124 69 70 (.invokevirtual 119) [122, 825, 827, 31] := zat_of zP_124 rfl
theorem zi_124_70 : zat 124 70 71 (.bipush 64) [] := zat_of zP_124 rfl
theorem zi_124_71 : zat 124 71 72 (.if_icmp .ne 61) [112] := zat_of zP_124 rfl
theorem zi_124_72 : zat 124 72 73 (.aload_n 0) [] := zat_of zP_124 rfl
theorem zi_124_73 : zat 124 73 74 (.dup) [] := zat_of zP_124 rfl
theorem zi_124_74 : zat 124 74 75 (.getfield 116) [4, 10, 687] := zat_of zP_124 rfl
theorem zi_124_75 : zat 124 75 76 (.iconst 1) [] := zat_of zP_124 rfl
theorem zi_124_76 : zat 124 76 77 (.iadd) [] := zat_of zP_124 rfl
theorem zi_124_77 : zat 124 77 78 (.putfield 116) [4, 10, 687] := zat_of zP_124 rfl
theorem zi_124_78 : zat 124 78 79 (.aload_n 0) [] := zat_of zP_124 rfl
theorem zi_124_79 : zat 124 79 80 (.iload_n 1) [] := zat_of zP_124 rfl
theorem zi_124_80 : zat 124 80 81 (.iconst 3) [] := zat_of zP_124 rfl
theorem zi_124_81 : zat 124 81 82 (.iadd) [] := zat_of zP_124 rfl
theorem zi_124_82 : zat 124 82 83 (.iconst 0) [] := zat_of zP_124 rfl
theorem zi_124_83 : zat 124 83 84 (.aload_n 0) [] := zat_of zP_124 rfl
theorem zi_124_84 : zat 124 84 85 (.getfield 29) [4, 12, 689] := zat_of zP_124 rfl
theorem zi_124_85 : zat 124 85 86 (.iload_n 1) [] := zat_of zP_124 rfl
theorem zi_124_86 : zat 124 86 87 (.iconst 1) [] := zat_of zP_124 rfl
theorem zi_124_87 : zat 124 87 88 (.iadd) [] := zat_of zP_124 rfl
theorem zi_124_88 : zat 124 88 89 (.iaload) [] := zat_of zP_124 rfl
theorem zi_124_89 : zat 124 89 90 (.iconst 1) [] := zat_of zP_124 rfl
theorem zi_124_90 : zat 124 90 91 (.isub) [] := zat_of zP_124 rfl
theorem zi_124_91 : zat 124 91 92 (.invokevirtual 123) [123, 821, 823, 30] := zat_of zP_124 rfl
theorem zi_124_92 : zat 124 92 93 (.ifCond .eq 28) [110] := zat_of zP_124 rfl
theorem zi_124_93 : zat 124 93 94 (.aload_n 0) [] := zat_of zP_124 rfl
theorem zi_124_94 : zat 124 94 95 (.iload_n 1) [] := zat_of zP_124 rfl
theorem zi_124_95 : zat 124 95 96 (.iconst 4) [] := zat_of zP_124 rfl
theorem zi_124_96 : zat 124 96 97 (.iadd) [] := zat_of zP_124 rfl
theorem zi_124_97 : zat 124 97 98 (.iconst 0) [] := zat_of zP_124 rfl
theorem zi_124_98 : zat 124 98 99 (.aload_n 0) [] := zat_of zP_124 rfl
theorem zi_124_99 : zat 124 99 100 (.getfield 29) [4, 12, 689] := zat_of zP_124 rfl
theorem zi_124_100 : zat 124 100 101 (.iload_n 1) [] := zat_of zP_124 rfl
theorem zi_124_101 : zat 124 101 102 (.iconst 2) [] := zat_of zP_124 rfl
theorem zi_124_102 : zat 124 102 103 (.iadd) [] := zat_of zP_124 rfl
theorem zi_124_103 : zat 124 103 104 (.iaload) [] := zat_of zP_124 rfl
theorem zi_124_104 : zat 124 104 105 (.iconst 1) [] := zat_of zP_124 rfl
theorem zi_124_105 : zat 124 105 106 (.isub) [] := zat_of zP_124 rfl
theorem zi_124_106 : zat 124 106 107 (.invokevirtual 123) [123, 821, 823, 30] := zat_of zP_124 rfl
theorem zi_124_107 : zat 124 107 108 (.ifCond .eq 7) [110] := zat_of zP_124 rfl
theorem zi_124_108 : zat 124 108 109 (.iconst 1) [] := zat_of zP_124 rfl
theorem zi_124_109 : zat 124 109 110 (.goto 4) [111] := zat_of zP_124 rfl
theorem zi_124_110 : zat 124 110 111 (.iconst 0) [] := zat_of zP_124 rfl
theorem zi_124_111 : zat 124 111 112 (.ireturn) [] := zat_of zP_124 rfl
theorem zi_124_112 : zat 124 112 113 (.iconst 1) [] := zat_of zP_124 rfl
theorem zi_124_113 : zat 124 113 114 (.ireturn) [] := zat_of zP_124 rfl
theorem zP_125 : zP 125 = zk_125 := rfl
theorem zi_125_0 : zat 125 0 1 (.aload_n 0) [] := zat_of zP_125 rfl
theorem zi_125_1 : zat 125 1 2 (.iconst 0) [] := zat_of zP_125 rfl
theorem zi_125_2 : zat 125 2 3 (.putfield 116) [4, 10, 687] := zat_of zP_125 rfl
theorem zi_125_3 : zat 125 3 4 (.iconst 0) [] := zat_of zP_125 rfl
theorem zi_125_4 : zat 125 4 5 (.istore_n 1) [] := zat_of zP_125 rfl
theorem zi_125_5 : zat 125 5 6 (.iload_n 1) [] := zat_of zP_125 rfl
theorem zi_125_6 : zat 125 6 7 (.bipush 8) [] := zat_of zP_125 rfl
theorem zi_125_7 : zat 125 7 8 (.if_icmp .ge 63) [44] := zat_of zP_125 rfl
theorem zi_125_8 : zat 125 8 9 (.aload_n 0) [] := zat_of zP_125 rfl
theorem zi_125_9 : zat 125 9 10 (.iconst 5) [] := zat_of zP_125 rfl
theorem zi_125_10 : zat 125 10 11 (.iload_n 1) [] := zat_of zP_125 rfl
theorem zi_125_11 : zat 125 11 12 (.imul) [] := zat_of zP_125 rfl
theorem zi_125_12 : zat 125 12 13 (.invokevirtual 127) [124, 817, 819, 29] := zat_of zP_125 rfl
theorem zi_125_13 : zat 125 13 14 (.ifCond .ne 5) [16] := zat_of zP_125 rfl
theorem zi_125_14 : zat 125 14 15 (.iconst 0) [] := zat_of zP_125 rfl
theorem zi_125_15 : zat 125 15 16 (.ireturn) [] := zat_of zP_125 rfl
theorem zi_125_16 : zat 125 16 17 (.aload_n 0) [] := zat_of zP_125 rfl
theorem zi_125_17 : zat 125 17 18 (.iload_n 1) [] := zat_of zP_125 rfl
theorem zi_125_18 : zat 125 18 19 (.iconst 1) [] := zat_of zP_125 rfl
theorem zi_125_19 : zat 125 19 20 (.iadd) [] := zat_of zP_125 rfl
theorem zi_125_20 : zat 125 20 21 (.putfield 130) [4, 11, 688] := zat_of zP_125 rfl
theorem zi_125_21 : zat 125 21 22 (.aload_n 0) [] := zat_of zP_125 rfl
theorem zi_125_22 : zat 125 22 23 (.invokevirtual 119) [122, 825, 827, 31] := zat_of zP_125 rfl
theorem zi_125_23 : zat 125 23 24 (.istore_n 2) [] := zat_of zP_125 rfl
theorem zi_125_24 : zat 125 24 25 (.iload_n 2) [] := zat_of zP_125 rfl
theorem zi_125_25 : zat 125 25 26 (.ifCond .ge 5) [28] := zat_of zP_125 rfl
theorem zi_125_26 : zat 125 26 27 (.iconst 1) [] := zat_of zP_125 rfl
theorem zi_125_27 : zat 125 27 28 (.ireturn) [] := zat_of zP_125 rfl
theorem zi_125_28 : zat 125 28 29 (.iload_n 2) [] := zat_of zP_125 rfl
theorem zi_125_29 : zat 125 29 30 (.bipush 44) [] := zat_of zP_125 rfl
theorem zi_125_30 : zat 125 30 31 (.if_icmp .ne 9) [34] := zat_of zP_125 rfl
theorem zi_125_31 : zat 125 31 32 (.iload_n 1) [] := zat_of zP_125 rfl
theorem zi_125_32 : zat 125 32 33 (.bipush 7) [] := zat_of zP_125 rfl
theorem zi_125_33 : zat 125 33 34 (.if_icmp .ne 5) [36] := zat_of zP_125 rfl
theorem zi_125_34 : zat 125 34 35 (.iconst 0) [] := zat_of zP_125 rfl
theorem zi_125_35 : zat 125 35 36 (.ireturn) [] := zat_of zP_125 rfl
theorem zi_125_36 : zat 125 36 37 (.aload_n 0) [] := zat_of zP_125 rfl
theorem zi_125_37 : zat 125 37 38 (.dup) [] := zat_of zP_125 rfl
theorem zi_125_38 : zat 125 38 39 (.getfield 116) [4, 10, 687] := zat_of zP_125 rfl
theorem zi_125_39 : zat 125 39 40 (.iconst 1) [] := zat_of zP_125 rfl
theorem zi_125_40 : zat 125 40 41 (.iadd) [] := zat_of zP_125 rfl
theorem zi_125_41 : zat 125 41 42 (.putfield 116) [4, 10, 687] := zat_of zP_125 rfl
theorem zi_125_42 : zat 125 42 43 (.iinc 1 1) [] := zat_of zP_125 rfl
theorem zi_125_43 : zat 125 43 44 (.goto (-63)) [5] := zat_of zP_125 rfl
theorem zi_125_44 : zat 125 44 45 (.iconst 0) [] := zat_of zP_125 rfl
theorem zi_125_45 : zat 125 45 46 (.ireturn) [] := zat_of zP_125 rfl
theorem zP_126 : zP 126 = zk_126 := rfl
theorem zi_126_0 : zat 126 0 1 (.aload_n 0) [] := zat_of zP_126 rfl
theorem zi_126_1 : zat 126 1 2 (.invokevirtual 133) [125, 813, 815, 28] := zat_of zP_126 rfl
theorem zi_126_2 : zat 126 2 3 (.istore_n 1) [] := zat_of zP_126 rfl
theorem zi_126_3 : zat 126 3 4 (.aload_n 0) [] := zat_of zP_126 rfl
theorem zi_126_4 : zat 126 4 5 (.iconst 0) [] := zat_of zP_126 rfl
theorem zi_126_5 : zat 126 5 6 (.putfield 113) [4, 9, 686] := zat_of zP_126 rfl
theorem zi_126_6 : zat 126 6 7 (.iload_n 1) [] := zat_of zP_126 rfl
theorem zi_126_7 : zat 126 7 8 (.ifCond .ne 11) [13] := zat_of zP_126 rfl
theorem zi_126_8 : zat 126 8 9 (.bipush (-20)) [] := zat_of zP_126 rfl
theorem zi_126_9 : zat 126 9 10 (.aload_n 0) [] := zat_of zP_126 rfl
theorem zi_126_10 : zat 126 10 11 (.getfield 116) [4, 10, 687] := zat_of zP_126 rfl
theorem zi_126_11 : zat 126 11 12 (.isub) [] := zat_of zP_126 rfl
theorem zi_126_12 : zat 126 12 13 (.ireturn) [] := zat_of zP_126 rfl
theorem zi_126_13 : zat 126 13 14 (.aload_n 0) [] := zat_of zP_126 rfl
theorem zi_126_14 : zat 126 14 15 (.iconst 0) [] := zat_of zP_126 rfl
theorem zi_126_15 : zat 126 15 16 (.putfield 71) [4, 1, 678] := zat_of zP_126 rfl
theorem zi_126_16 : zat 126 16 17 (.aload_n 0) [] := zat_of zP_126 rfl
theorem zi_126_17 : zat 126 17 18 (.iconst 0) [] := zat_of zP_126 rfl
theorem zi_126_18 : zat 126 18 19 (.putfield 94) [4, 4, 681] := zat_of zP_126 rfl
theorem zi_126_19 : zat 126 19 20 (.aload_n 0) [] := zat_of zP_126 rfl
theorem zi_126_20 : zat 126 20 21 (.getfield 19) [4, 5, 682] := zat_of zP_126 rfl
theorem zi_126_21 : zat 126 21 22 (.iconst 0) [] := zat_of zP_126 rfl
theorem zi_126_22 : zat 126 22 23 (.iconst 0) [] := zat_of zP_126 rfl
theorem zi_126_23 : zat 126 23 24 (.iastore) [] := zat_of zP_126 rfl
theorem zi_126_24 : zat 126 24 25 (.aload_n 0) [] := zat_of zP_126 rfl
theorem zi_126_25 : zat 126 25 26 (.getfield 19) [4, 5, 682] := zat_of zP_126 rfl
theorem zi_126_26 : zat 126 26 27 (.iconst 1) [] := zat_of zP_126 rfl
theorem zi_126_27 : zat 126 27 28 (.iconst 0) [] := zat_of zP_126 rfl
theorem zi_126_28 : zat 126 28 29 (.iastore) [] := zat_of zP_126 rfl
theorem zi_126_29 : zat 126 29 30 (.aload_n 0) [] := zat_of zP_126 rfl
theorem zi_126_30 : zat 126 30 31 (.iconst 0) [] := zat_of zP_126 rfl
theorem zi_126_31 : zat 126 31 32 (.putfield 137) [4, 6, 683] := zat_of zP_126 rfl
theorem zi_126_32 : zat 126 32 33 (.iconst 0) [] := zat_of zP_126 rfl
theorem zi_126_33 : zat 126 33 34 (.istore_n 2) [] := zat_of zP_126 rfl
theorem zi_126_34 : zat 126 34 35 (.iload_n 2) [] := zat_of zP_126 rfl
theorem zi_126_35 : zat 126 35 36 (.aload_n 0) [] := zat_of zP_126 rfl
theorem zi_126_36 : zat 126 36 37 (.getfield 130) [4, 11, 688] := zat_of zP_126 rfl
theorem zi_126_37 : zat 126 37 38 (.if_icmp .ge 61) [80] := zat_of zP_126 rfl
theorem zi_126_38 : zat 126 38 39 (.aload_n 0) [] := zat_of zP_126 rfl
theorem zi_126_39 : zat 126 39 40 (.aload_n 0) [] := zat_of zP_126 rfl
theorem zi_126_40 : zat 126 40 41 (.getfield 29) [4, 12, 689] := zat_of zP_126 rfl
theorem zi_126_41 : zat 126 41 42 (.iconst 5) [] := zat_of zP_126 rfl
theorem zi_126_42 : zat 126 42 43 (.iload_n 2) [] := zat_of zP_126 rfl
theorem zi_126_43 : zat 126 43 44 (.imul) [] := zat_of zP_126 rfl
theorem zi_126_44 : zat 126 44 45 (.iaload) [] := zat_of zP_126 rfl
theorem zi_126_45 : zat 126 45 46 (.aload_n 0) [] := zat_of zP_126 rfl
theorem zi_126_46 : zat 126 46 47 (.getfield 29) [4, 12, 689] := zat_of zP_126 rfl
theorem zi_126_47 : zat 126 47 48 (.iconst 5) [] := zat_of zP_126 rfl
theorem zi_126_48 : zat 126 48 49 (.iload_n 2) [] := zat_of zP_126 rfl
theorem zi_126_49 : zat 126 49 50 (.imul) [] := zat_of zP_126 rfl
theorem zi_126_50 : zat 126 50 51 (.iconst 1) [] := zat_of zP_126 rfl
theorem zi_126_51 : zat 126 51 52 (.iadd) [] := zat_of zP_126 rfl
theorem zi_126_52 : zat 126 52 53 (.iaload) [] := zat_of zP_126 rfl
theorem zi_126_53 : zat 126 53 54 (.aload_n 0) [] := zat_of zP_126 rfl
theorem zi_126_54 : zat 126 54 55 (.getfield 29) [4, 12, 689] := zat_of zP_126 rfl
theorem zi_126_55 : zat 126 55 56 (.iconst 5) [] := zat_of zP_126 rfl
theorem zi_126_56 : zat 126 56 57 (.iload_n 2) [] := zat_of zP_126 rfl
theorem zi_126_57 : zat 126 57 58 (.imul) [] := zat_of zP_126 rfl
theorem zi_126_58 : zat 126 58 59 (.iconst 2) [] := zat_of zP_126 rfl
theorem zi_126_59 : zat 126 59 60 (.iadd) [] := zat_of zP_126 rfl
theorem zi_126_60 : zat 126 60 61 (.iaload) [] := zat_of zP_126 rfl
theorem zi_126_61 : zat 126 61 62 (.aload_n 0) [] := zat_of zP_126 rfl
theorem zi_126_62 : zat 126 62 63 (.getfield 29) [4, 12, 689] := zat_of zP_126 rfl
theorem zi_126_63 : zat 126 63 64 (.iconst 5) [] := zat_of zP_126 rfl
theorem zi_126_64 : zat 126 64 65 (.iload_n 2) [] := zat_of zP_126 rfl
theorem zi_126_65 : zat 126 65 66 (.imul) [] := zat_of zP_126 rfl
theorem zi_126_66 : zat 126 66 67 (.iconst 3) [] := zat_of zP_126 rfl
theorem zi_126_67 : zat 126 67 68 (.iadd) [] := zat_of zP_126 rfl
theorem zi_126_68 : zat 126 68 69 (.iaload) [] := zat_of zP_126 rfl
theorem zi_126_69 : zat 126 69 70 (.aload_n 0) [] := zat_of zP_126 rfl
theorem zi_126_70 : zat 126 70 71 (.getfield 29) [4, 12, 689] := zat_of zP_126 rfl
theorem zi_126_71 : zat 126 71 72 (.iconst 5) [] := zat_of zP_126 rfl
theorem zi_126_72 : zat 126 72 73 (.iload_n 2) [] := zat_of zP_126 rfl
theorem zi_126_73 : zat 126 73 74 (.imul) [] := zat_of zP_126 rfl
theorem zi_126_74 : zat 126 74 75 (.iconst 4) [] := zat_of zP_126 rfl
theorem zi_126_75 : zat 126 75 76 (.iadd) [] := zat_of zP_126 rfl
theorem zi_126_76 : zat 126 76 77 (.iaload) [] := zat_of zP_126 rfl
theorem zi_126_77 : zat 126 77 78 (.invokevirtual 82) [115, 771, 773, 24] := zat_of zP_126 rfl
theorem zi_126_78 : zat 126 78 79 (.iinc 2 1) [] := zat_of zP_126 rfl
theorem zi_126_79 : zat 126 79 80 (.goto (-63)) [34] := zat_of zP_126 rfl
theorem zi_126_80 : zat 126 80 81 (.aload_n 0) [] := zat_of zP_126 rfl
theorem zi_126_81 : zat 126 81 82 (.getfield 71) [4, 1, 678] := zat_of zP_126 rfl
theorem zi_126_82 : zat 126 82 83 (.ireturn) [] := zat_of zP_126 rfl
theorem zP_127 : zP 127 = zk_127 := rfl
theorem zi_127_0 : zat 127 0 1 (.aload_n 0) [] := zat_of zP_127 rfl
theorem zi_127_1 : zat 127 1 2 (.getfield 7) [4, 0, 677] := zat_of zP_127 rfl
theorem zi_127_2 : zat 127 2 3 (.bipush 6) [] := zat_of zP_127 rfl
theorem zi_127_3 : zat 127 3 4 (.iload_n 1) [] := zat_of zP_127 rfl
theorem zi_127_4 : zat 127 4 5 (.imul) [] := zat_of zP_127 rfl
theorem zi_127_5 : zat 127 5 6 (.iaload) [] := zat_of zP_127 rfl
theorem zi_127_6 : zat 127 6 7 (.iconst 1) [] := zat_of zP_127 rfl
theorem zi_127_7 : zat 127 7 8 (.if_icmp .eq 16) [16] := zat_of zP_127 rfl
theorem zi_127_8 : zat 127 8 9 (.aload_n 0) [] := zat_of zP_127 rfl
theorem zi_127_9 : zat 127 9 10 (.getfield 7) [4, 0, 677] := zat_of zP_127 rfl
theorem zi_127_10 : zat 127 10 11 (.bipush 6) [] := zat_of zP_127 rfl
theorem zi_127_11 : zat 127 11 12 (.iload_n 1) [] := zat_of zP_127 rfl
theorem zi_127_12 : zat 127 12 13 (.imul) [] := zat_of zP_127 rfl
theorem zi_127_13 : zat 127 13 14 (.iaload) [] := zat_of zP_127 rfl
theorem zi_127_14 : zat 127 14 15 (.iconst 3) [] := zat_of zP_127 rfl
theorem zi_127_15 : zat 127 15 16 (.if_icmp .ne 7) [18] := zat_of zP_127 rfl
theorem zi_127_16 : zat 127 16 17 (.iconst 1) [] := zat_of zP_127 rfl
theorem zi_127_17 : zat 127 17 18 (.goto 4) [19] := zat_of zP_127 rfl
theorem zi_127_18 : zat 127 18 19 (.iconst 0) [] := zat_of zP_127 rfl
theorem zi_127_19 : zat 127 19 20 (.ireturn) [] := zat_of zP_127 rfl
theorem zP_128 : zP 128 = zk_128 := rfl
theorem zi_128_0 : zat 128 0 1 (.iload_n 1) [] := zat_of zP_128 rfl
theorem zi_128_1 : zat 128 1 2 (.istore_n 2) [] := zat_of zP_128 rfl
theorem zi_128_2 : zat 128 2 3 (.iconst 0) [] := zat_of zP_128 rfl
theorem zi_128_3 : zat 128 3 4 (.istore_n 3) [] := zat_of zP_128 rfl
theorem zi_128_4 : zat 128 4 5 (.iload_n 3) [] := zat_of zP_128 rfl
theorem zi_128_5 : zat 128 5 6 (.aload_n 0) [] := zat_of zP_128 rfl
theorem zi_128_6 : zat 128 6 7 (.getfield 94) [4, 4, 681] := zat_of zP_128 rfl
theorem zi_128_7 : zat 128 7 8 (.if_icmp .ge 54) [40] := zat_of zP_128 rfl
theorem zi_128_8 : zat 128 8 9 (.aload_n 0) [] := zat_of zP_128 rfl
theorem zi_128_9 : zat 128 9 10 (.getfield 32) [4, 13, 690] := zat_of zP_128 rfl
theorem zi_128_10 : zat 128 10 11 (.iload_n 3) [] := zat_of zP_128 rfl
theorem zi_128_11 : zat 128 11 12 (.iload_n 2) [] := zat_of zP_128 rfl
theorem zi_128_12 : zat 128 12 13 (.iastore) [] := zat_of zP_128 rfl
theorem zi_128_13 : zat 128 13 14 (.aload_n 0) [] := zat_of zP_128 rfl
theorem zi_128_14 : zat 128 14 15 (.getfield 35) [4, 14, 691] := zat_of zP_128 rfl
theorem zi_128_15 : zat 128 15 16 (.iload_n 3) [] := zat_of zP_128 rfl
theorem zi_128_16 : zat 128 16 17 (.aload_n 0) [] := zat_of zP_128 rfl
theorem zi_128_17 : zat 128 17 18 (.getfield 7) [4, 0, 677] := zat_of zP_128 rfl
theorem zi_128_18 : zat 128 18 19 (.bipush 6) [] := zat_of zP_128 rfl
theorem zi_128_19 : zat 128 19 20 (.aload_n 0) [] := zat_of zP_128 rfl
theorem zi_128_20 : zat 128 20 21 (.getfield 13) [4, 2, 679] := zat_of zP_128 rfl
theorem zi_128_21 : zat 128 21 22 (.iload_n 3) [] := zat_of zP_128 rfl
theorem zi_128_22 : zat 128 22 23 (.iaload) [] := zat_of zP_128 rfl
theorem zi_128_23 : zat 128 23 24 (.imul) [] := zat_of zP_128 rfl
theorem zi_128_24 : zat 128 24 25 (.iaload) [] := zat_of zP_128 rfl
theorem zi_128_25 : zat 128 25 26 (.iconst 2) [] := zat_of zP_128 rfl
theorem zi_128_26 : zat 128 26 27 (.if_icmp .ne 7) [29] := zat_of zP_128 rfl
theorem zi_128_27 : zat 128 27 28 (.iload_n 2) [] := zat_of zP_128 rfl
theorem zi_128_28 : zat 128 28 29 (.goto 5) [31] := zat_of zP_128 rfl
theorem zi_128_29 : zat 128 29 30 (.iload_n 2) [] := zat_of zP_128 rfl
theorem zi_128_30 : zat 128 30 31 (.ineg) [] := zat_of zP_128 rfl
theorem zi_128_31 : zat 128 31 32 (.iastore) [] := zat_of zP_128 rfl
theorem zi_128_32 : zat 128 32 33 (.aload_n 0) [] := zat_of zP_128 rfl
theorem zi_128_33 : zat 128 33 34 (.getfield 35) [4, 14, 691] := zat_of zP_128 rfl
theorem zi_128_34 : zat 128 34 35 (.iload_n 3) [] := zat_of zP_128 rfl
theorem zi_128_35 : zat 128 35 36 (.iaload) [] := zat_of zP_128 rfl
theorem zi_128_36 : zat 128 36 37 (.ineg) [] := zat_of zP_128 rfl
theorem zi_128_37 : zat 128 37 38 (.istore_n 2) [] := zat_of zP_128 rfl
theorem zi_128_38 : zat 128 38 39 (.iinc 3 1) [] := zat_of zP_128 rfl
theorem zi_128_39 : zat 128 39 40 (.goto (-56)) [4] := zat_of zP_128 rfl
theorem zi_128_40 : zat 128 40 41 (.return_) [] := zat_of zP_128 rfl
theorem zP_129 : zP 129 = zk_129 := rfl
theorem zi_129_0 : zat 129 0 1 (.bipush (-4)) [] := zat_of zP_129 rfl
theorem zi_129_1 : zat 129 1 2 (.istore_n 1) [] := zat_of zP_129 rfl
theorem zi_129_2 : zat 129 2 3 (.iconst 0) [] := zat_of zP_129 rfl
theorem zi_129_3 : zat 129 3 4 (.istore_n 2) [] := zat_of zP_129 rfl
theorem zi_129_4 : zat 129 4 5 (.iload_n 2) [] := zat_of zP_129 rfl
theorem zi_129_5 : zat 129 5 6 (.aload_n 0) [] := zat_of zP_129 rfl
theorem zi_129_6 : zat 129 6 7 (.getfield 94) [4, 4, 681] := zat_of zP_129 rfl
theorem zi_129_7 : zat 129 7 8 (.if_icmp .ge 46) [31] := zat_of zP_129 rfl
theorem zi_129_8 : zat 129 8 9 (.aload_n 0) [] := zat_of zP_129 rfl
theorem zi_129_9 : zat 129 9 10 (.aload_n 0) [] := zat_of zP_129 rfl
theorem zi_129_10 : zat 129 10 11 (.getfield 13) [4, 2, 679] := zat_of zP_129 rfl
theorem zi_129_11 : zat 129 11 12 (.iload_n 2) [] := zat_of zP_129 rfl
theorem zi_129_12 : zat 129 12 13 (.iaload) [] := zat_of zP_129 rfl
theorem zi_129_13 : zat 129 13 14 (.invokevirtual 141) [127, 880, 882, 41] := zat_of zP_129 rfl
theorem zi_129_14 : zat 129 14 15 (.ifCond .eq 25) [27] := zat_of zP_129 rfl
theorem zi_129_15 : zat 129 15 16 (.aload_n 0) [] := zat_of zP_129 rfl
theorem zi_129_16 : zat 129 16 17 (.getfield 32) [4, 13, 690] := zat_of zP_129 rfl
theorem zi_129_17 : zat 129 17 18 (.iload_n 2) [] := zat_of zP_129 rfl
theorem zi_129_18 : zat 129 18 19 (.iaload) [] := zat_of zP_129 rfl
theorem zi_129_19 : zat 129 19 20 (.ifCond .lt 12) [25] := zat_of zP_129 rfl
theorem zi_129_20 : zat 129 20 21 (.aload_n 0) [] := zat_of zP_129 rfl
theorem zi_129_21 : zat 129 21 22 (.getfield 35) [4, 14, 691] := zat_of zP_129 rfl
theorem zi_129_22 : zat 129 22 23 (.iload_n 2) [] := zat_of zP_129 rfl
theorem zi_129_23 : zat 129 23 24 (.iaload) [] := zat_of zP_129 rfl
theorem zi_129_24 : zat 129 24 25 (.ifCond .ge 7) [27] := zat_of zP_129 rfl
theorem zi_129_25 : zat 129 25 26 (.iload_n 2) [] := zat_of zP_129 rfl
theorem zi_129_26 : zat 129 26 27 (.goto 4) [28] := zat_of zP_129 rfl
theorem zi_129_27 : zat 129 27 28 (.iload_n 1) [] := zat_of zP_129 rfl
theorem zi_129_28 : zat 129 28 29 (.istore_n 1) [] := zat_of zP_129 rfl
theorem zi_129_29 : zat 129 29 30 (.iinc 2 1) [] := zat_of zP_129 rfl
theorem zi_129_30 : zat 129 30 31 (.goto (-48)) [4] := zat_of zP_129 rfl
theorem zi_129_31 : zat 129 31 32 (.iload_n 1) [] := zat_of zP_129 rfl
theorem zi_129_32 : zat 129 32 33 (.ireturn) [] := zat_of zP_129 rfl
theorem zP_130 : zP 130 = zk_130 := rfl
theorem zi_130_0 : zat 130 0 1 (.aload_n 0) [] := zat_of zP_130 rfl
theorem zi_130_1 : zat 130 1 2 (.getfield 137) [4, 6, 683] := zat_of zP_130 rfl
theorem zi_130_2 : zat 130 2 3 (.ifCond .eq 27) [17] := zat_of zP_130 rfl
theorem zi_130_3 : zat 130 3 4 (.aload_n 0) [] := zat_of zP_130 rfl
theorem zi_130_4 : zat 130 4 5 (.getfield 32) [4, 13, 690] := zat_of zP_130 rfl
theorem zi_130_5 : zat 130 5 6 (.iconst 0) [] := zat_of zP_130 rfl
theorem zi_130_6 : zat 130 6 7 (.iaload) [] := zat_of zP_130 rfl
theorem zi_130_7 : zat 130 7 8 (.aload_n 0) [] := zat_of zP_130 rfl
theorem zi_130_8 : zat 130 8 9 (.getfield 35) [4, 14, 691] := zat_of zP_130 rfl
theorem zi_130_9 : zat 130 9 10 (.aload_n 0) [] := zat_of zP_130 rfl
theorem zi_130_10 : zat 130 10 11 (.getfield 94) [4, 4, 681] := zat_of zP_130 rfl
theorem zi_130_11 : zat 130 11 12 (.iconst 1) [] := zat_of zP_130 rfl
theorem zi_130_12 : zat 130 12 13 (.isub) [] := zat_of zP_130 rfl
theorem zi_130_13 : zat 130 13 14 (.iaload) [] := zat_of zP_130 rfl
theorem zi_130_14 : zat 130 14 15 (.if_icmp .ne 7) [17] := zat_of zP_130 rfl
theorem zi_130_15 : zat 130 15 16 (.iconst 1) [] := zat_of zP_130 rfl
theorem zi_130_16 : zat 130 16 17 (.goto 4) [18] := zat_of zP_130 rfl
theorem zi_130_17 : zat 130 17 18 (.iconst 0) [] := zat_of zP_130 rfl
theorem zi_130_18 : zat 130 18 19 (.ireturn) [] := zat_of zP_130 rfl
theorem zP_131 : zP 131 = zk_131 := rfl
theorem zi_131_0 : zat 131 0 1 (.aload_n 0) [] := zat_of zP_131 rfl
theorem zi_131_1 : zat 131 1 2 (.invokevirtual 144) [130, 872, 874, 39] := zat_of zP_131 rfl
theorem zi_131_2 : zat 131 2 3 (.ifCond .ne 10) [6] := zat_of zP_131 rfl
theorem zi_131_3 : zat 131 3 4 (.aload_n 0) [] := zat_of zP_131 rfl
theorem zi_131_4 : zat 131 4 5 (.invokevirtual 147) [129, 876, 878, 40] := zat_of zP_131 rfl
theorem zi_131_5 : zat 131 5 6 (.ifCond .lt 7) [8] := zat_of zP_131 rfl
theorem zi_131_6 : zat 131 6 7 (.iconst 1) [] := zat_of zP_131 rfl
theorem zi_131_7 : zat 131 7 8 (.goto 4) [9] := zat_of zP_131 rfl
theorem zi_131_8 : zat 131 8 9 (.iconst 0) [] := zat_of zP_131 rfl
theorem zi_131_9 : zat 131 9 10 (.ireturn) [] := zat_of zP_131 rfl
theorem zP_132 : zP 132 = zk_132 := rfl
theorem zi_132_0 : zat 132 0 1 (.aload_n 0) [] := zat_of zP_132 rfl
theorem zi_132_1 : zat 132 1 2 (.iconst 1) [] := zat_of zP_132 rfl
theorem zi_132_2 : zat 132 2 3 (.invokevirtual 150) [128, 864, 866, 37] := zat_of zP_132 rfl
theorem zi_132_3 : zat 132 3 4 (.aload_n 0) [] := zat_of zP_132 rfl
theorem zi_132_4 : zat 132 4 5 (.getfield 35) [4, 14, 691] := zat_of zP_132 rfl
theorem zi_132_5 : zat 132 5 6 (.aload_n 0) [] := zat_of zP_132 rfl
theorem zi_132_6 : zat 132 6 7 (.getfield 94) [4, 4, 681] := zat_of zP_132 rfl
theorem zi_132_7 : zat 132 7 8 (.iconst 1) [] := zat_of zP_132 rfl
theorem zi_132_8 : zat 132 8 9 (.isub) [] := zat_of zP_132 rfl
theorem zi_132_9 : zat 132 9 10 (.iaload) [] := zat_of zP_132 rfl
theorem zi_132_10 : zat 132 10 11 (.ireturn) [] := zat_of zP_132 rfl
theorem zP_133 : zP 133 = zk_133 := rfl
theorem zi_133_0 : zat 133 0 1 (.iload_n 0) [] := zat_of zP_133 rfl
theorem zi_133_1 : zat 133 1 2 (.iload_n 1) [] := zat_of zP_133 rfl
theorem zi_133_2 : zat 133 2 3 (.iadd) [] := zat_of zP_133 rfl
theorem zi_133_3 : zat 133 3 4 (.iload_n 2) [] := zat_of zP_133 rfl
theorem zi_133_4 : zat 133 4 5 (.irem) [] := zat_of zP_133 rfl
theorem zi_133_5 : zat 133 5 6 (.istore_n 3) [] := zat_of zP_133 rfl
theorem zi_133_6 : zat 133 6 7 (.iload_n 3) [] := zat_of zP_133 rfl
theorem zi_133_7 : zat 133 7 8 (.ifCond .ge 9) [12] := zat_of zP_133 rfl
theorem zi_133_8 : zat 133 8 9 (.iload_n 3) [] := zat_of zP_133 rfl
theorem zi_133_9 : zat 133 9 10 (.iload_n 2) [] := zat_of zP_133 rfl
theorem zi_133_10 : zat 133 10 11 (.iadd) [] := zat_of zP_133 rfl
theorem zi_133_11 : zat 133 11 12 (.goto 4) [13] := zat_of zP_133 rfl
theorem zi_133_12 : zat 133 12 13 (.iload_n 3) [] := zat_of zP_133 rfl
theorem zi_133_13 : zat 133 13 14 (.ireturn) [] := zat_of zP_133 rfl
theorem zP_134 : zP 134 = zk_134 := rfl
theorem zi_134_0 : zat 134 0 1 (.iconst 0) [] := zat_of zP_134 rfl
theorem zi_134_1 : zat 134 1 2 (.istore_n 2) [] := zat_of zP_134 rfl
theorem zi_134_2 : zat 134 2 3 (.iload_n 2) [] := zat_of zP_134 rfl
theorem zi_134_3 : zat 134 3 4 (.aload_n 0) [] := zat_of zP_134 rfl
theorem zi_134_4 : zat 134 4 5 (.getfield 94) [4, 4, 681] := zat_of zP_134 rfl
theorem zi_134_5 : zat 134 5 6 (.if_icmp .ge 118) [82] := zat_of zP_134 rfl
theorem zi_134_6 : zat 134 6 7 (.aload_n 0) [] := zat_of zP_134 rfl
theorem zi_134_7 : zat 134 7 8 (.getfield 13) [4, 2, 679] := zat_of zP_134 rfl
theorem zi_134_8 : zat 134 8 9 (.iload_n 2) [] := zat_of zP_134 rfl
theorem zi_134_9 : zat 134 9 10 (.iaload) [] := zat_of zP_134 rfl
theorem zi_134_10 : zat 134 10 11 (.istore_n 3) [] := zat_of zP_134 rfl
theorem zi_134_11 : zat 134 11 12 (.aload_n 0) [] := zat_of zP_134 rfl
theorem zi_134_12 : zat 134 12 13 (.getfield 16) [4, 3, 680] := zat_of zP_134 rfl
theorem zi_134_13 : zat 134 13 14 (.iload_n 2) [] := zat_of zP_134 rfl
theorem zi_134_14 : zat 134 14 15 (.iaload) [] := zat_of zP_134 rfl
theorem zi_134_15 : zat 134 15 16 (.istore 4) [] := zat_of zP_134 rfl
theorem zi_134_16 : zat 134 16 17 (.aload_n 0) [] := zat_of zP_134 rfl
theorem zi_134_17 : zat 134 17 18 (.getfield 7) [4, 0, 677] := zat_of zP_134 rfl
theorem zi_134_18 : zat 134 18 19 (.bipush 6) [] := zat_of zP_134 rfl
theorem zi_134_19 : zat 134 19 20 (.iload_n 3) [] := zat_of zP_134 rfl
theorem zi_134_20 : zat 134 20 21 (.imul) [] := zat_of zP_134 rfl
theorem zi_134_21 : zat 134 21 22 (.iconst 3) [] := zat_of zP_134 rfl
theorem zi_134_22 : zat 134 22 23 (.iadd) [] := zat_of zP_134 rfl
theorem zi_134_23 : zat 134 23 24 (.iload 4) [] := zat_of zP_134 rfl
theorem zi_134_24 : zat 134 24 25 (.iadd) [] := zat_of zP_134 rfl
theorem zi_134_25 : zat 134 25 26 (.aload_n 0) [] := zat_of zP_134 rfl
theorem zi_134_26 : zat 134 26 27 (.getfield 7) [4, 0, 677] := zat_of zP_134 rfl
theorem zi_134_27 : zat 134 27 28 (.bipush 6) [] := zat_of zP_134 rfl
theorem zi_134_28 : zat 134 28 29 (.iload_n 3) [] := zat_of zP_134 rfl
theorem zi_134_29 : zat 134 29 30 (.imul) [] := zat_of zP_134 rfl
theorem zi_134_30 : zat 134 30 31 (.iconst 3) [] := zat_of zP_134 rfl
theorem zi_134_31 : zat 134 31 32 (.iadd) [] := zat_of zP_134 rfl
theorem zi_134_32 : zat 134 32 33 (.iload 4) [] := zat_of zP_134 rfl
theorem zi_134_33 : zat 134 33 34 (.iadd) [] := zat_of zP_134 rfl
theorem zi_134_34 : zat 134 34 35 (.iaload) [] := zat_of zP_134 rfl
theorem zi_134_35 : zat 134 35 36 (.aload_n 0) [] := zat_of zP_134 rfl
theorem zi_134_36 : zat 134 36 37 (.getfield 32) [4, 13, 690] := zat_of zP_134 rfl
theorem zi_134_37 : zat 134 37 38 (.iload_n 2) [] := zat_of zP_134 rfl
theorem zi_134_38 : zat 134 38 39 (.iaload) [] := zat_of zP_134 rfl
theorem zi_134_39 : zat 134 39 40 (.iload_n 1) [] := zat_of zP_134 rfl
theorem zi_134_40 : zat 134 40 41 (.imul) [] := zat_of zP_134 rfl
theorem zi_134_41 : zat 134 41 42 (.aload_n 0) [] := zat_of zP_134 rfl
theorem zi_134_42 : zat 134 42 43 (.iload_n 3) [] := zat_of zP_134 rfl
theorem zi_134_43 : zat 134 43 44 (.iload 4) [] := zat_of zP_134 rfl
theorem zi_134_44 : zat 134 44 45 (.invokevirtual 90) [114, 783, 785, 26] := zat_of zP_134 rfl
theorem zi_134_45 : zat 134 45 46 (.invokestatic 154) [133, 888, 889] := zat_of zP_134 rfl
theorem zi_134_46 : zat 134 46 47 (.iastore) [] := zat_of zP_134 rfl
theorem zi_134_47 : zat 134 47 48 (.aload_n 0) [] := zat_of zP_134 rfl
theorem zi_134_48 : zat 134 48 49 (.getfield 7) [4, 0, 677] := zat_of zP_134 rfl
theorem zi_134_49 : zat 134 49 50 (.bipush 6) [] := zat_of zP_134 rfl
theorem zi_134_50 : zat 134 50 51 (.iload_n 3) [] := zat_of zP_134 rfl
theorem zi_134_51 : zat 134 51 52 (.imul) [] := zat_of zP_134 rfl
theorem zi_134_52 : zat 134 52 53 (.iconst 4) [] := zat_of zP_134 rfl
theorem zi_134_53 : zat 134 53 54 (.iadd) [] := zat_of zP_134 rfl
theorem zi_134_54 : zat 134 54 55 (.iload 4) [] := zat_of zP_134 rfl
theorem zi_134_55 : zat 134 55 56 (.isub) [] := zat_of zP_134 rfl
theorem zi_134_56 : zat 134 56 57 (.aload_n 0) [] := zat_of zP_134 rfl
theorem zi_134_57 : zat 134 57 58 (.getfield 7) [4, 0, 677] := zat_of zP_134 rfl
theorem zi_134_58 : zat 134 58 59 (.bipush 6) [] := zat_of zP_134 rfl
theorem zi_134_59 : zat 134 59 60 (.iload_n 3) [] := zat_of zP_134 rfl
theorem zi_134_60 : zat 134 60 61 (.imul) [] := zat_of zP_134 rfl
theorem zi_134_61 : zat 134 61 62 (.iconst 4) [] := zat_of zP_134 rfl
theorem zi_134_62 : zat 134 62 63 (.iadd) [] := zat_of zP_134 rfl
theorem zi_134_63 : zat 134 63 64 (.iload 4) [] := zat_of zP_134 rfl
theorem zi_134_64 : zat 134 64 65 (.isub) [] := zat_of zP_134 rfl
theorem zi_134_65 : zat 134 65 66 (.iaload) [] := zat_of zP_134 rfl
theorem zi_134_66 : zat 134 66 67 (.aload_n 0) [] := zat_of zP_134 rfl
theorem zi_134_67 : zat 134 67 68 (.getfield 35) [4, 14, 691] := zat_of zP_134 rfl
theorem zi_134_68 : zat 134 68 69 (.iload_n 2) [] := zat_of zP_134 rfl
theorem zi_134_69 : zat 134 69 70 (.iaload) [] := zat_of zP_134 rfl
theorem zi_134_70 : zat 134 70 71 (.iload_n 1) [] := zat_of zP_134 rfl
theorem zi_134_71 : zat 134 71 72 (.imul) [] := zat_of zP_134 rfl
theorem zi_134_72 : zat 134 72 73 (.aload_n 0) [] := zat_of zP_134 rfl
theorem zi_134_73 : zat 134 73 74 (.iload_n 3) [] := zat_of zP_134 rfl
theorem zi_134_74 : zat 134 74 75 (.iconst 1) [] := zat_of zP_134 rfl
theorem zi_134_75 : zat 134 75 76 (.iload 4) [] := zat_of zP_134 rfl
theorem zi_134_76 : zat 134 76 77 (.isub) [] := zat_of zP_134 rfl
theorem zi_134_77 : zat 134 77 78 (.invokevirtual 90) [114, 783, 785, 26] := zat_of zP_134 rfl
theorem zi_134_78 : zat 134 78 79 (.invokestatic 154) [133, 888, 889] := zat_of zP_134 rfl
theorem zi_134_79 : zat 134 79 80 (.iastore) [] := zat_of zP_134 rfl
theorem zi_134_80 : zat 134 80 81 (.iinc 2 1) [] := zat_of zP_134 rfl
theorem zi_134_81 : zat 134 81 82 (.goto (-120)) [2] := zat_of zP_134 rfl
theorem zi_134_82 : zat 134 82 83 (.return_) [] := zat_of zP_134 rfl
theorem zP_135 : zP 135 = zk_135 := rfl
theorem zi_135_0 : zat 135 0 1 (.iconst 0) [] := zat_of zP_135 rfl
theorem zi_135_1 : zat 135 1 2 (.istore_n 1) [] := zat_of zP_135 rfl
theorem zi_135_2 : zat 135 2 3 (.iconst 0) [] := zat_of zP_135 rfl
theorem zi_135_3 : zat 135 3 4 (.istore_n 2) [] := zat_of zP_135 rfl
theorem zi_135_4 : zat 135 4 5 (.iload_n 2) [] := zat_of zP_135 rfl
theorem zi_135_5 : zat 135 5 6 (.aload_n 0) [] := zat_of zP_135 rfl
theorem zi_135_6 : zat 135 6 7 (.getfield 94) [4, 4, 681] := zat_of zP_135 rfl
theorem zi_135_7 : zat 135 7 8 (.if_icmp .ge 61) [44] := zat_of zP_135 rfl
theorem zi_135_8 : zat 135 8 9 (.iload_n 1) [] := zat_of zP_135 rfl
theorem zi_135_9 : zat 135 9 10 (.aload_n 0) [] := zat_of zP_135 rfl
theorem zi_135_10 : zat 135 10 11 (.getfield 7) [4, 0, 677] := zat_of zP_135 rfl
theorem zi_135_11 : zat 135 11 12 (.bipush 6) [] := zat_of zP_135 rfl
theorem zi_135_12 : zat 135 12 13 (.aload_n 0) [] := zat_of zP_135 rfl
theorem zi_135_13 : zat 135 13 14 (.getfield 13) [4, 2, 679] := zat_of zP_135 rfl
theorem zi_135_14 : zat 135 14 15 (.iload_n 2) [] := zat_of zP_135 rfl
theorem zi_135_15 : zat 135 15 16 (.iaload) [] := zat_of zP_135 rfl
theorem zi_135_16 : zat 135 16 17 (.imul) [] := zat_of zP_135 rfl
theorem zi_135_17 : zat 135 17 18 (.iconst 3) [] := zat_of zP_135 rfl
theorem zi_135_18 : zat 135 18 19 (.iadd) [] := zat_of zP_135 rfl
theorem zi_135_19 : zat 135 19 20 (.iaload) [] := zat_of zP_135 rfl
theorem zi_135_20 : zat 135 20 21 (.ifCond .ne 7) [23] := zat_of zP_135 rfl
theorem zi_135_21 : zat 135 21 22 (.iconst 1) [] := zat_of zP_135 rfl
theorem zi_135_22 : zat 135 22 23 (.goto 4) [24] := zat_of zP_135 rfl
theorem zi_135_23 : zat 135 23 24 (.iconst 0) [] := zat_of zP_135 rfl
theorem zi_135_24 : zat 135 24 25 (.aload_n 0) [] := zat_of zP_135 rfl
theorem zi_135_25 : zat 135 25 26 (.getfield 7) [4, 0, 677] := zat_of zP_135 rfl
theorem zi_135_26 : zat 135 26 27 (.bipush 6) [] := zat_of zP_135 rfl
theorem zi_135_27 : zat 135 27 28 (.aload_n 0) [] := zat_of zP_135 rfl
theorem zi_135_28 : zat 135 28 29 (.getfield 13) [4, 2, 679] := zat_of zP_135 rfl
theorem zi_135_29 : zat 135 29 30 (.iload_n 2) [] := zat_of zP_135 rfl
theorem zi_135_30 : zat 135 30 31 (.iaload) [] := zat_of zP_135 rfl
theorem zi_135_31 : zat 135 31 32 (.imul) [] := zat_of zP_135 rfl
theorem zi_135_32 : zat 135 32 33 (.iconst 4) [] := zat_of zP_135 rfl
theorem zi_135_33 : zat 135 33 34 (.iadd) [] := zat_of zP_135 rfl
theorem zi_135_34 : zat 135 34 35 (.iaload) [] := zat_of zP_135 rfl
theorem zi_135_35 : zat 135 35 36 (.ifCond .ne 7) [38] := zat_of zP_135 rfl
theorem zi_135_36 : zat 135 36 37 (.iconst 1) [] := zat_of zP_135 rfl
theorem zi_135_37 : zat 135 37 38 (.goto 4) [39] := zat_of zP_135 rfl
theorem zi_135_38 : zat 135 38 39 (.iconst 0) [] := zat_of zP_135 rfl
theorem zi_135_39 : zat 135 39 40 (.iadd) [] := zat_of zP_135 rfl
theorem zi_135_40 : zat 135 40 41 (.iadd) [] := zat_of zP_135 rfl
theorem zi_135_41 : zat 135 41 42 (.istore_n 1) [] := zat_of zP_135 rfl
theorem zi_135_42 : zat 135 42 43 (.iinc 2 1) [] := zat_of zP_135 rfl
theorem zi_135_43 : zat 135 43 44 (.goto (-63)) [4] := zat_of zP_135 rfl
theorem zi_135_44 : zat 135 44 45 (.iload_n 1) [] := zat_of zP_135 rfl
theorem zi_135_45 : zat 135 45 46 (.ireturn) [] := zat_of zP_135 rfl
theorem zP_136 : zP 136 = zk_136 := rfl
theorem zi_136_0 : zat 136 0 1 (.iload_n 1) [] := zat_of zP_136 rfl
theorem zi_136_1 : zat 136 1 2 (.i2l) [] := zat_of zP_136 rfl
theorem zi_136_2 : zat 136 2 3 (.lconst 0) [] := zat_of zP_136 rfl
theorem zi_136_3 : zat 136 3 4 (.ldc2_w 97) [7, 0, 791] := zat_of zP_136 rfl
theorem zi_136_4 : zat 136 4 5 (.invokestatic 74) [112, 767, 768] := zat_of zP_136 rfl
theorem zi_136_5 : zat 136 5 6 (.ifCond .ne 5) [8] := zat_of zP_136 rfl
theorem zi_136_6 : zat 136 6 7 (.iconst (-1)) [] := zat_of zP_136 rfl
theorem zi_136_7 : zat 136 7 8 (.ireturn) [] := zat_of zP_136 rfl
theorem zi_136_8 : zat 136 8 9 (.iconst 0) [] := zat_of zP_136 rfl
theorem zi_136_9 : zat 136 9 10 (.istore_n 2) [] := zat_of zP_136 rfl
theorem zi_136_10 : zat 136 10 11 (.iconst 0) [] := zat_of zP_136 rfl
theorem zi_136_11 : zat 136 11 12 (.istore_n 3) [] := zat_of zP_136 rfl
theorem zi_136_12 : zat 136 12 13 (.iconst 0) [] := zat_of zP_136 rfl
theorem zi_136_13 : zat 136 13 14 (.istore 4) [] := zat_of zP_136 rfl
theorem zi_136_14 : zat 136 14 15 (.iload 4) [] := zat_of zP_136 rfl
theorem zi_136_15 : zat 136 15 16 (.aload_n 0) [] := zat_of zP_136 rfl
theorem zi_136_16 : zat 136 16 17 (.getfield 71) [4, 1, 678] := zat_of zP_136 rfl
theorem zi_136_17 : zat 136 17 18 (.if_icmp .ge 56) [51] := zat_of zP_136 rfl
theorem zi_136_18 : zat 136 18 19 (.iload_n 2) [] := zat_of zP_136 rfl
theorem zi_136_19 : zat 136 19 20 (.aload_n 0) [] := zat_of zP_136 rfl
theorem zi_136_20 : zat 136 20 21 (.getfield 7) [4, 0, 677] := zat_of zP_136 rfl
theorem zi_136_21 : zat 136 21 22 (.bipush 6) [] := zat_of zP_136 rfl
theorem zi_136_22 : zat 136 22 23 (.iload 4) [] := zat_of zP_136 rfl
theorem zi_136_23 : zat 136 23 24 (.imul) [] := zat_of zP_136 rfl
theorem zi_136_24 : zat 136 24 25 (.iconst 5) [] := zat_of zP_136 rfl
theorem zi_136_25 : zat 136 25 26 (.iadd) [] := zat_of zP_136 rfl
theorem zi_136_26 : zat 136 26 27 (.iaload) [] := zat_of zP_136 rfl
theorem zi_136_27 : zat 136 27 28 (.ifCond .ne 7) [30] := zat_of zP_136 rfl
theorem zi_136_28 : zat 136 28 29 (.iconst 1) [] := zat_of zP_136 rfl
theorem zi_136_29 : zat 136 29 30 (.goto 4) [31] := zat_of zP_136 rfl
theorem zi_136_30 : zat 136 30 31 (.iconst 0) [] := zat_of zP_136 rfl
theorem zi_136_31 : zat 136 31 32 (.iadd) [] := zat_of zP_136 rfl
theorem zi_136_32 : zat 136 32 33 (.istore_n 2) [] := zat_of zP_136 rfl
theorem zi_136_33 : zat 136 33 34 (.iload_n 3) [] := zat_of zP_136 rfl
theorem zi_136_34 : zat 136 34 35 (.aload_n 0) [] := zat_of zP_136 rfl
theorem zi_136_35 : zat 136 35 36 (.getfield 7) [4, 0, 677] := zat_of zP_136 rfl
theorem zi_136_36 : zat 136 36 37 (.bipush 6) [] := zat_of zP_136 rfl
theorem zi_136_37 : zat 136 37 38 (.iload 4) [] := zat_of zP_136 rfl
theorem zi_136_38 : zat 136 38 39 (.imul) [] := zat_of zP_136 rfl
theorem zi_136_39 : zat 136 39 40 (.iconst 5) [] := zat_of zP_136 rfl
theorem zi_136_40 : zat 136 40 41 (.iadd) [] := zat_of zP_136 rfl
theorem zi_136_41 : zat 136 41 42 (.iaload) [] := zat_of zP_136 rfl
theorem zi_136_42 : zat 136 42 43 (.iconst 1) [] := zat_of zP_136 rfl
theorem zi_136_43 : zat 136 43 44 (.if_icmp .ne 7) [46] := zat_of zP_136 rfl
theorem zi_136_44 : zat 136 44 45 (.iconst 1) [] := zat_of zP_136 rfl
theorem zi_136_45 : zat 136 45 46 (.goto 4) [47] := zat_of zP_136 rfl
theorem zi_136_46 : zat 136 46 47 (.iconst 0) [] := zat_of zP_136 rfl
theorem zi_136_47 : zat 136 47 48 (.iadd) [] := zat_of zP_136 rfl
theorem zi_136_48 : zat 136 48 49 (.istore_n 3) [] := zat_of zP_136 rfl
theorem zi_136_49 : zat 136 49 50 (.iinc 4 1) [] := zat_of zP_136 rfl
theorem zi_136_50 : zat 136 50 51 (.goto (-59)) [14] := zat_of zP_136 rfl
theorem zi_136_51 : zat 136 51 52 (.iload_n 1) [] := zat_of zP_136 rfl
theorem zi_136_52 : zat 136 52 53 (.ifCond .ne 10) [56] := zat_of zP_136 rfl
theorem zi_136_53 : zat 136 53 54 (.aload_n 0) [] := zat_of zP_136 rfl
theorem zi_136_54 : zat 136 54 55 (.getfield 71) [4, 1, 678] := zat_of zP_136 rfl
theorem zi_136_55 : zat 136 55 56 (.goto 75) [94] := zat_of zP_136 rfl
theorem zi_136_56 : zat 136 56 57 (.iload_n 1) [] := zat_of zP_136 rfl
theorem zi_136_57 : zat 136 57 58 (.iconst 1) [] := zat_of zP_136 rfl
theorem zi_136_58 : zat 136 58 59 (.if_icmp .ne 10) [62] := zat_of zP_136 rfl
theorem zi_136_59 : zat 136 59 60 (.aload_n 0) [] := zat_of zP_136 rfl
theorem zi_136_60 : zat 136 60 61 (.getfield 94) [4, 4, 681] := zat_of zP_136 rfl
theorem zi_136_61 : zat 136 61 62 (.goto 63) [94] := zat_of zP_136 rfl
theorem zi_136_62 : zat 136 62 63 (.iload_n 1) [] := zat_of zP_136 rfl
theorem zi_136_63 : zat 136 63 64 (.iconst 2) [] := zat_of zP_136 rfl
theorem zi_136_64 : zat 136 64 65 (.if_icmp .ne 7) [67] := zat_of zP_136 rfl
theorem zi_136_65 : zat 136 65 66 (.iload_n 2) [] := zat_of zP_136 rfl
theorem zi_136_66 : zat 136 66 67 (.goto 54) [94] := zat_of zP_136 rfl
theorem zi_136_67 : zat 136 67 68 (.iload_n 1) [] := zat_of zP_136 rfl
theorem zi_136_68 : zat 136 68 69 (.iconst 3) [] := zat_of zP_136 rfl
theorem zi_136_69 : zat 136 69 70 (.if_icmp .ne 7) [72] := zat_of zP_136 rfl
theorem zi_136_70 : zat 136 70 71 (.iload_n 3) [] := zat_of zP_136 rfl
theorem zi_136_71 : zat 136 71 72 (.goto 45) [94] := zat_of zP_136 rfl
theorem zi_136_72 : zat 136 72 73 (.iload_n 1) [] := zat_of zP_136 rfl
theorem zi_136_73 : zat 136 73 74 (.bipush 6) [] := zat_of zP_136 rfl
theorem zi_136_74 : zat 136 74 75 (.if_icmp .ge 14) [82] := zat_of zP_136 rfl
theorem zi_136_75 : zat 136 75 76 (.aload_n 0) [] := zat_of zP_136 rfl
theorem zi_136_76 : zat 136 76 77 (.getfield 19) [4, 5, 682] := zat_of zP_136 rfl
theorem zi_136_77 : zat 136 77 78 (.iload_n 1) [] := zat_of zP_136 rfl
theorem zi_136_78 : zat 136 78 79 (.iconst 4) [] := zat_of zP_136 rfl
theorem zi_136_79 : zat 136 79 80 (.isub) [] := zat_of zP_136 rfl
theorem zi_136_80 : zat 136 80 81 (.iaload) [] := zat_of zP_136 rfl
theorem zi_136_81 : zat 136 81 82 (.goto 28) [94] := zat_of zP_136 rfl
theorem zi_136_82 : zat 136 82 83 (.iload_n 1) [] := zat_of zP_136 rfl
theorem zi_136_83 : zat 136 83 84 (.bipush 6) [] := zat_of zP_136 rfl
theorem zi_136_84 : zat 136 84 85 (.if_icmp .ne 10) [88] := zat_of zP_136 rfl
theorem zi_136_85 : zat 136 85 86 (.aload_n 0) [] := zat_of zP_136 rfl
theorem zi_136_86 : zat 136 86 87 (.invokevirtual 158) [135, 833, 835, 32] := zat_of zP_136 rfl
theorem zi_136_87 : zat 136 87 88 (.goto 15) [94] := zat_of zP_136 rfl
theorem zi_136_88 : zat 136 88 89 (.aload_n 0) [] := zat_of zP_136 rfl
theorem zi_136_89 : zat 136 89 90 (.getfield 137) [4, 6, 683] := zat_of zP_136 rfl
theorem zi_136_90 : zat 136 90 91 (.ifCond .eq 7) [93] := zat_of zP_136 rfl
theorem zi_136_91 : zat 136 91 92 (.iconst 1) [] := zat_of zP_136 rfl
theorem zi_136_92 : zat 136 92 93 (.goto 4) [94] := zat_of zP_136 rfl
theorem zi_136_93 : zat 136 93 94 (.iconst 0) [] := zat_of zP_136 rfl
theorem zi_136_94 : zat 136 94 95 (.ireturn) [] := zat_of zP_136 rfl
theorem zP_137 : zP 137 = zk_137 := rfl
theorem zi_137_0 : zat 137 0 1 (.iload_n 0) [] := zat_of zP_137 rfl
theorem zi_137_1 : zat 137 1 2 (.iload_n 1) [] := zat_of zP_137 rfl
theorem zi_137_2 : zat 137 2 3 (.isub) [] := zat_of zP_137 rfl
theorem zi_137_3 : zat 137 3 4 (.i2l) [] := zat_of zP_137 rfl
theorem zi_137_4 : zat 137 4 5 (.ldc2_w 103) [1, 1, 800] := zat_of zP_137 rfl
theorem zi_137_5 : zat 137 5 6 (.lconst 1) [] := zat_of zP_137 rfl
theorem zi_137_6 : zat 137 6 7 (.invokestatic 74) [112, 767, 768] := zat_of zP_137 rfl
theorem zi_137_7 : zat 137 7 8 (.ireturn) [] := zat_of zP_137 rfl
theorem zP_138 : zP 138 = zk_138 := rfl
theorem zi_138_0 : zat 138 0 1 (.aload_n 0) [] := zat_of zP_138 rfl
theorem zi_138_1 : zat 138 1 2 (.getfield 94) [4, 4, 681] := zat_of zP_138 rfl
theorem zi_138_2 : zat 138 2 3 (.ifCond .eq 43) [27] := zat_of zP_138 rfl
theorem zi_138_3 : zat 138 3 4 (.aload_n 0) [] := zat_of zP_138 rfl
theorem zi_138_4 : zat 138 4 5 (.iload_n 1) [] := zat_of zP_138 rfl
theorem zi_138_5 : zat 138 5 6 (.iload_n 2) [] := zat_of zP_138 rfl
theorem zi_138_6 : zat 138 6 7 (.invokevirtual 90) [114, 783, 785, 26] := zat_of zP_138 rfl
theorem zi_138_7 : zat 138 7 8 (.aload_n 0) [] := zat_of zP_138 rfl
theorem zi_138_8 : zat 138 8 9 (.aload_n 0) [] := zat_of zP_138 rfl
theorem zi_138_9 : zat 138 9 10 (.getfield 13) [4, 2, 679] := zat_of zP_138 rfl
theorem zi_138_10 : zat 138 10 11 (.aload_n 0) [] := zat_of zP_138 rfl
theorem zi_138_11 : zat 138 11 12 (.getfield 94) [4, 4, 681] := zat_of zP_138 rfl
theorem zi_138_12 : zat 138 12 13 (.iconst 1) [] := zat_of zP_138 rfl
theorem zi_138_13 : zat 138 13 14 (.isub) [] := zat_of zP_138 rfl
theorem zi_138_14 : zat 138 14 15 (.iaload) [] := zat_of zP_138 rfl
theorem zi_138_15 : zat 138 15 16 (.iconst 1) [] := zat_of zP_138 rfl
theorem zi_138_16 : zat 138 16 17 (.aload_n 0) [] := zat_of zP_138 rfl
theorem zi_138_17 : zat 138 17 18 (.getfield 16) [4, 3, 680] := zat_of zP_138 rfl
theorem zi_138_18 : zat 138 18 19 (.aload_n 0) [] := zat_of zP_138 rfl
theorem zi_138_19 : zat 138 19 20 (.getfield 94) [4, 4, 681] := zat_of zP_138 rfl
theorem zi_138_20 : zat 138 20 21 (.iconst 1) [] := zat_of zP_138 rfl
theorem zi_138_21 : zat 138 21 22 (.isub) [] := zat_of zP_138 rfl
theorem zi_138_22 : zat 138 22 23 (.iaload) [] := zat_of zP_138 rfl
theorem zi_138_23 : zat 138 23 24 (.isub) [] := zat_of zP_138 rfl
theorem zi_138_24 : zat 138 24 25 (.invokevirtual 90) [114, 783, 785, 26] := zat_of zP_138 rfl
theorem zi_138_25 : zat 138 25 26 (.invokestatic 161) [137, 845, 846] := zat_of zP_138 rfl
theorem zi_138_26 : zat 138 26 27 (.ifCond .eq 7) [29] := zat_of zP_138 rfl
theorem zi_138_27 : zat 138 27 28 (.iconst 1) [] := zat_of zP_138 rfl
theorem zi_138_28 : zat 138 28 29 (.goto 4) [30] := zat_of zP_138 rfl
theorem zi_138_29 : zat 138 29 30 (.iconst 0) [] := zat_of zP_138 rfl
theorem zi_138_30 : zat 138 30 31 (.ireturn) [] := zat_of zP_138 rfl
theorem zP_139 : zP 139 = zk_139 := rfl
theorem zi_139_0 : zat 139 0 1 (.aload_n 0) [] := zat_of zP_139 rfl
theorem zi_139_1 : zat 139 1 2 (.iload_n 1) [] := zat_of zP_139 rfl
theorem zi_139_2 : zat 139 2 3 (.invokevirtual 86) [113, 779, 781, 25] := zat_of zP_139 rfl
theorem zi_139_3 : zat 139 3 4 (.ifCond .eq 13) [10] := zat_of zP_139 rfl
theorem zi_139_4 : zat 139 4 5 (.iload_n 2) [] := zat_of zP_139 rfl
theorem zi_139_5 : zat 139 5 6 (.i2l) [] := zat_of zP_139 rfl
theorem zi_139_6 : zat 139 6 7 (.lconst 0) [] := zat_of zP_139 rfl
theorem zi_139_7 : zat 139 7 8 (.lconst 1) [] := zat_of zP_139 rfl
theorem zi_139_8 : zat 139 8 9 (.invokestatic 74) [112, 767, 768] := zat_of zP_139 rfl
theorem zi_139_9 : zat 139 9 10 (.ifCond .ne 5) [12] := zat_of zP_139 rfl
theorem zi_139_10 : zat 139 10 11 (.iconst (-1)) [] := zat_of zP_139 rfl
theorem zi_139_11 : zat 139 11 12 (.ireturn) [] := zat_of zP_139 rfl
theorem zi_139_12 : zat 139 12 13 (.aload_n 0) [] := zat_of zP_139 rfl
theorem zi_139_13 : zat 139 13 14 (.iload_n 1) [] := zat_of zP_139 rfl
theorem zi_139_14 : zat 139 14 15 (.invokevirtual 99) [118, 792, 794, 27] := zat_of zP_139 rfl
theorem zi_139_15 : zat 139 15 16 (.ifCond .ge 10) [19] := zat_of zP_139 rfl
theorem zi_139_16 : zat 139 16 17 (.aload_n 0) [] := zat_of zP_139 rfl
theorem zi_139_17 : zat 139 17 18 (.getfield 137) [4, 6, 683] := zat_of zP_139 rfl
theorem zi_139_18 : zat 139 18 19 (.ifCond .eq 8) [21] := zat_of zP_139 rfl
theorem zi_139_19 : zat 139 19 20 (.bipush (-2)) [] := zat_of zP_139 rfl
theorem zi_139_20 : zat 139 20 21 (.goto 17) [29] := zat_of zP_139 rfl
theorem zi_139_21 : zat 139 21 22 (.aload_n 0) [] := zat_of zP_139 rfl
theorem zi_139_22 : zat 139 22 23 (.iload_n 1) [] := zat_of zP_139 rfl
theorem zi_139_23 : zat 139 23 24 (.iload_n 2) [] := zat_of zP_139 rfl
theorem zi_139_24 : zat 139 24 25 (.invokevirtual 165) [138, 841, 843, 33] := zat_of zP_139 rfl
theorem zi_139_25 : zat 139 25 26 (.ifCond .eq 7) [28] := zat_of zP_139 rfl
theorem zi_139_26 : zat 139 26 27 (.iconst 1) [] := zat_of zP_139 rfl
theorem zi_139_27 : zat 139 27 28 (.goto 4) [29] := zat_of zP_139 rfl
theorem zi_139_28 : zat 139 28 29 (.iconst 0) [] := zat_of zP_139 rfl
theorem zi_139_29 : zat 139 29 30 (.ireturn) [] := zat_of zP_139 rfl
theorem zP_140 : zP 140 = zk_140 := rfl
theorem zi_140_0 : zat 140 0 1 (.aload_n 0) [] := zat_of zP_140 rfl
theorem zi_140_1 : zat 140 1 2 (.getfield 94) [4, 4, 681] := zat_of zP_140 rfl
theorem zi_140_2 : zat 140 2 3 (.ifCond .le 23) [13] := zat_of zP_140 rfl
theorem zi_140_3 : zat 140 3 4 (.aload_n 0) [] := zat_of zP_140 rfl
theorem zi_140_4 : zat 140 4 5 (.aload_n 0) [] := zat_of zP_140 rfl
theorem zi_140_5 : zat 140 5 6 (.invokevirtual 168) [132, 860, 862, 36] := zat_of zP_140 rfl
theorem zi_140_6 : zat 140 6 7 (.invokevirtual 150) [128, 864, 866, 37] := zat_of zP_140 rfl
theorem zi_140_7 : zat 140 7 8 (.aload_n 0) [] := zat_of zP_140 rfl
theorem zi_140_8 : zat 140 8 9 (.invokevirtual 171) [131, 868, 870, 38] := zat_of zP_140 rfl
theorem zi_140_9 : zat 140 9 10 (.ifCond .ne 8) [13] := zat_of zP_140 rfl
theorem zi_140_10 : zat 140 10 11 (.aload_n 0) [] := zat_of zP_140 rfl
theorem zi_140_11 : zat 140 11 12 (.iconst 1) [] := zat_of zP_140 rfl
theorem zi_140_12 : zat 140 12 13 (.invokevirtual 174) [134, 884, 886, 42] := zat_of zP_140 rfl
theorem zi_140_13 : zat 140 13 14 (.aload_n 0) [] := zat_of zP_140 rfl
theorem zi_140_14 : zat 140 14 15 (.getfield 13) [4, 2, 679] := zat_of zP_140 rfl
theorem zi_140_15 : zat 140 15 16 (.aload_n 0) [] := zat_of zP_140 rfl
theorem zi_140_16 : zat 140 16 17 (.getfield 94) [4, 4, 681] := zat_of zP_140 rfl
theorem zi_140_17 : zat 140 17 18 (.iload_n 1) [] := zat_of zP_140 rfl
theorem zi_140_18 : zat 140 18 19 (.iastore) [] := zat_of zP_140 rfl
theorem zi_140_19 : zat 140 19 20 (.aload_n 0) [] := zat_of zP_140 rfl
theorem zi_140_20 : zat 140 20 21 (.getfield 16) [4, 3, 680] := zat_of zP_140 rfl
theorem zi_140_21 : zat 140 21 22 (.aload_n 0) [] := zat_of zP_140 rfl
theorem zi_140_22 : zat 140 22 23 (.getfield 94) [4, 4, 681] := zat_of zP_140 rfl
theorem zi_140_23 : zat 140 23 24 (.iload_n 2) [] := zat_of zP_140 rfl
theorem zi_140_24 : zat 140 24 25 (.iastore) [] := zat_of zP_140 rfl
theorem zi_140_25 : zat 140 25 26 (.aload_n 0) [] := zat_of zP_140 rfl
theorem zi_140_26 : zat 140 26 27 (.dup) [] := zat_of zP_140 rfl
theorem zi_140_27 : zat 140 27 28 (.getfield 94) [4, 4, 681] := zat_of zP_140 rfl
theorem zi_140_28 : zat 140 28 29 (.iconst 1) [] := zat_of zP_140 rfl
theorem zi_140_29 : zat 140 29 30 (.iadd) [] := zat_of zP_140 rfl
theorem zi_140_30 : zat 140 30 31 (.putfield 94) [4, 4, 681] := zat_of zP_140 rfl
theorem zi_140_31 : zat 140 31 32 (.aload_n 0) [] := zat_of zP_140 rfl
theorem zi_140_32 : zat 140 32 33 (.getfield 94) [4, 4, 681] := zat_of zP_140 rfl
theorem zi_140_33 : zat 140 33 34 (.iconst 2) [] := zat_of zP_140 rfl
theorem zi_140_34 : zat 140 34 35 (.if_icmp .lt 16) [42] := zat_of zP_140 rfl
theorem zi_140_35 : zat 140 35 36 (.aload_n 0) [] := zat_of zP_140 rfl
theorem zi_140_36 : zat 140 36 37 (.invokevirtual 158) [135, 833, 835, 32] := zat_of zP_140 rfl
theorem zi_140_37 : zat 140 37 38 (.iconst 2) [] := zat_of zP_140 rfl
theorem zi_140_38 : zat 140 38 39 (.aload_n 0) [] := zat_of zP_140 rfl
theorem zi_140_39 : zat 140 39 40 (.getfield 94) [4, 4, 681] := zat_of zP_140 rfl
theorem zi_140_40 : zat 140 40 41 (.imul) [] := zat_of zP_140 rfl
theorem zi_140_41 : zat 140 41 42 (.if_icmp .ge 5) [44] := zat_of zP_140 rfl
theorem zi_140_42 : zat 140 42 43 (.iconst 0) [] := zat_of zP_140 rfl
theorem zi_140_43 : zat 140 43 44 (.ireturn) [] := zat_of zP_140 rfl
theorem zi_140_44 : zat 140 44 45 (.aload_n 0) [] := zat_of zP_140 rfl
theorem zi_140_45 : zat 140 45 46 (.getfield 94) [4, 4, 681] := zat_of zP_140 rfl
theorem zi_140_46 : zat 140 46 47 (.istore_n 3) [] := zat_of zP_140 rfl
theorem zi_140_47 : zat 140 47 48 (.iconst 0) [] := zat_of zP_140 rfl
theorem zi_140_48 : zat 140 48 49 (.istore 4) [] := zat_of zP_140 rfl
theorem zi_140_49 : zat 140 49 50 (.iload 4) [] := zat_of zP_140 rfl
theorem zi_140_50 : zat 140 50 51 (.aload_n 0) [] := zat_of zP_140 rfl
theorem zi_140_51 : zat 140 51 52 (.getfield 94) [4, 4, 681] := zat_of zP_140 rfl
theorem zi_140_52 : zat 140 52 53 (.if_icmp .ge 36) [72] := zat_of zP_140 rfl
theorem zi_140_53 : zat 140 53 54 (.iload_n 3) [] := zat_of zP_140 rfl
theorem zi_140_54 : zat 140 54 55 (.aload_n 0) [] := zat_of zP_140 rfl
theorem zi_140_55 : zat 140 55 56 (.getfield 7) [4, 0, 677] := zat_of zP_140 rfl
theorem zi_140_56 : zat 140 56 57 (.bipush 6) [] := zat_of zP_140 rfl
theorem zi_140_57 : zat 140 57 58 (.aload_n 0) [] := zat_of zP_140 rfl
theorem zi_140_58 : zat 140 58 59 (.getfield 13) [4, 2, 679] := zat_of zP_140 rfl
theorem zi_140_59 : zat 140 59 60 (.iload 4) [] := zat_of zP_140 rfl
theorem zi_140_60 : zat 140 60 61 (.iaload) [] := zat_of zP_140 rfl
theorem zi_140_61 : zat 140 61 62 (.imul) [] := zat_of zP_140 rfl
theorem zi_140_62 : zat 140 62 63 (.iaload) [] := zat_of zP_140 rfl
theorem zi_140_63 : zat 140 63 64 (.iconst 3) [] := zat_of zP_140 rfl
theorem zi_140_64 : zat 140 64 65 (.if_icmp .ne 7) [67] := zat_of zP_140 rfl
theorem zi_140_65 : zat 140 65 66 (.iconst 1) [] := zat_of zP_140 rfl
theorem zi_140_66 : zat 140 66 67 (.goto 4) [68] := zat_of zP_140 rfl
theorem zi_140_67 : zat 140 67 68 (.iconst 0) [] := zat_of zP_140 rfl
theorem zi_140_68 : zat 140 68 69 (.iadd) [] := zat_of zP_140 rfl
theorem zi_140_69 : zat 140 69 70 (.istore_n 3) [] := zat_of zP_140 rfl
theorem zi_140_70 : zat 140 70 71 (.iinc 4 1) [] := zat_of zP_140 rfl
theorem zi_140_71 : zat 140 71 72 (.goto (-39)) [49] := zat_of zP_140 rfl
theorem zi_140_72 : zat 140 72 73 (.iload_n 3) [] := zat_of zP_140 rfl
theorem zi_140_73 : zat 140 73 74 (.ireturn) [] := zat_of zP_140 rfl
theorem zP_141 : zP 141 = zk_141 := rfl
theorem zi_141_0 : zat 141 0 1 (.aload_n 0) [] := zat_of zP_141 rfl
theorem zi_141_1 : zat 141 1 2 (.iload_n 1) [] := zat_of zP_141 rfl
theorem zi_141_2 : zat 141 2 3 (.iload_n 2) [] := zat_of zP_141 rfl
theorem zi_141_3 : zat 141 3 4 (.invokevirtual 177) [140, 856, 858, 35] := zat_of zP_141 rfl
theorem zi_141_4 : zat 141 4 5 (.istore_n 3) [] := zat_of zP_141 rfl
theorem zi_141_5 : zat 141 5 6 (.aload_n 0) [] := zat_of zP_141 rfl
theorem zi_141_6 : zat 141 6 7 (.getfield 7) [4, 0, 677] := zat_of zP_141 rfl
theorem zi_141_7 : zat 141 7 8 (.bipush 6) [] := zat_of zP_141 rfl
theorem zi_141_8 : zat 141 8 9 (.iload_n 1) [] := zat_of zP_141 rfl
theorem zi_141_9 : zat 141 9 10 (.imul) [] := zat_of zP_141 rfl
theorem zi_141_10 : zat 141 10 11 (.iconst 5) [] := zat_of zP_141 rfl
theorem zi_141_11 : zat 141 11 12 (.iadd) [] := zat_of zP_141 rfl
theorem zi_141_12 : zat 141 12 13 (.iaload) [] := zat_of zP_141 rfl
theorem zi_141_13 : zat 141 13 14 (.istore 4) [] := zat_of zP_141 rfl
theorem zi_141_14 : zat 141 14 15 (.aload_n 0) [] := zat_of zP_141 rfl
theorem zi_141_15 : zat 141 15 16 (.getfield 19) [4, 5, 682] := zat_of zP_141 rfl
theorem zi_141_16 : zat 141 16 17 (.iconst 0) [] := zat_of zP_141 rfl
theorem zi_141_17 : zat 141 17 18 (.dup2) [] := zat_of zP_141 rfl
theorem zi_141_18 : zat 141 18 19 (.iaload) [] := zat_of zP_141 rfl
theorem zi_141_19 : zat 141 19 20 (.iload 4) [] := zat_of zP_141 rfl
theorem zi_141_20 : zat 141 20 21 (.ifCond .ne 7) [23] := zat_of zP_141 rfl
theorem zi_141_21 : zat 141 21 22 (.iload_n 3) [] := zat_of zP_141 rfl
theorem zi_141_22 : zat 141 22 23 (.goto 4) [24] := zat_of zP_141 rfl
theorem zi_141_23 : zat 141 23 24 (.iconst 0) [] := zat_of zP_141 rfl
theorem zi_141_24 : zat 141 24 25 (.iadd) [] := zat_of zP_141 rfl
theorem zi_141_25 : zat 141 25 26 (.iastore) [] := zat_of zP_141 rfl
theorem zi_141_26 : zat 141 26 27 (.aload_n 0) [] := zat_of zP_141 rfl
theorem zi_141_27 : zat 141 27 28 (.getfield 19) [4, 5, 682] := zat_of zP_141 rfl
theorem zi_141_28 : zat 141 28 29 (.iconst 1) [] := zat_of zP_141 rfl
theorem zi_141_29 : zat 141 29 30 (.dup2) [] := zat_of zP_141 rfl
theorem zi_141_30 : zat 141 30 31 (.iaload) [] := zat_of zP_141 rfl
theorem zi_141_31 : zat 141 31 32 (.iload 4) [] := zat_of zP_141 rfl
theorem zi_141_32 : zat 141 32 33 (.iconst 1) [] := zat_of zP_141 rfl
theorem zi_141_33 : zat 141 33 34 (.if_icmp .ne 7) [36] := zat_of zP_141 rfl
theorem zi_141_34 : zat 141 34 35 (.iload_n 3) [] := zat_of zP_141 rfl
theorem zi_141_35 : zat 141 35 36 (.goto 4) [37] := zat_of zP_141 rfl
theorem zi_141_36 : zat 141 36 37 (.iconst 0) [] := zat_of zP_141 rfl
theorem zi_141_37 : zat 141 37 38 (.iadd) [] := zat_of zP_141 rfl
theorem zi_141_38 : zat 141 38 39 (.iastore) [] := zat_of zP_141 rfl
theorem zi_141_39 : zat 141 39 40 (.aload_n 0) [] := zat_of zP_141 rfl
theorem zi_141_40 : zat 141 40 41 (.getfield 7) [4, 0, 677] := zat_of zP_141 rfl
theorem zi_141_41 : zat 141 41 42 (.bipush 6) [] := zat_of zP_141 rfl
theorem zi_141_42 : zat 141 42 43 (.iload_n 1) [] := zat_of zP_141 rfl
theorem zi_141_43 : zat 141 43 44 (.imul) [] := zat_of zP_141 rfl
theorem zi_141_44 : zat 141 44 45 (.iconst 5) [] := zat_of zP_141 rfl
theorem zi_141_45 : zat 141 45 46 (.iadd) [] := zat_of zP_141 rfl
theorem zi_141_46 : zat 141 46 47 (.bipush (-4)) [] := zat_of zP_141 rfl
theorem zi_141_47 : zat 141 47 48 (.iastore) [] := zat_of zP_141 rfl
theorem zi_141_48 : zat 141 48 49 (.iload_n 3) [] := zat_of zP_141 rfl
theorem zi_141_49 : zat 141 49 50 (.ireturn) [] := zat_of zP_141 rfl
theorem zP_142 : zP 142 = zk_142 := rfl
theorem zi_142_0 : zat 142 0 1 (.aload_n 0) [] := zat_of zP_142 rfl
theorem zi_142_1 : zat 142 1 2 (.iload_n 1) [] := zat_of zP_142 rfl
theorem zi_142_2 : zat 142 2 3 (.invokevirtual 86) [113, 779, 781, 25] := zat_of zP_142 rfl
theorem zi_142_3 : zat 142 3 4 (.ifCond .eq 13) [10] := zat_of zP_142 rfl
theorem zi_142_4 : zat 142 4 5 (.iload_n 2) [] := zat_of zP_142 rfl
theorem zi_142_5 : zat 142 5 6 (.i2l) [] := zat_of zP_142 rfl
theorem zi_142_6 : zat 142 6 7 (.lconst 0) [] := zat_of zP_142 rfl
theorem zi_142_7 : zat 142 7 8 (.lconst 1) [] := zat_of zP_142 rfl
theorem zi_142_8 : zat 142 8 9 (.invokestatic 74) [112, 767, 768] := zat_of zP_142 rfl
theorem zi_142_9 : zat 142 9 10 (.ifCond .ne 5) [12] := zat_of zP_142 rfl
theorem zi_142_10 : zat 142 10 11 (.iconst (-1)) [] := zat_of zP_142 rfl
theorem zi_142_11 : zat 142 11 12 (.ireturn) [] := zat_of zP_142 rfl
theorem zi_142_12 : zat 142 12 13 (.aload_n 0) [] := zat_of zP_142 rfl
theorem zi_142_13 : zat 142 13 14 (.iload_n 1) [] := zat_of zP_142 rfl
theorem zi_142_14 : zat 142 14 15 (.invokevirtual 99) [118, 792, 794, 27] := zat_of zP_142 rfl
theorem zi_142_15 : zat 142 15 16 (.ifCond .ge 10) [19] := zat_of zP_142 rfl
theorem zi_142_16 : zat 142 16 17 (.aload_n 0) [] := zat_of zP_142 rfl
theorem zi_142_17 : zat 142 17 18 (.getfield 137) [4, 6, 683] := zat_of zP_142 rfl
theorem zi_142_18 : zat 142 18 19 (.ifCond .eq 6) [21] := zat_of zP_142 rfl
theorem zi_142_19 : zat 142 19 20 (.bipush (-2)) [] := zat_of zP_142 rfl
theorem zi_142_20 : zat 142 20 21 (.ireturn) [] := zat_of zP_142 rfl
theorem zi_142_21 : zat 142 21 22 (.aload_n 0) [] := zat_of zP_142 rfl
theorem zi_142_22 : zat 142 22 23 (.iload_n 1) [] := zat_of zP_142 rfl
theorem zi_142_23 : zat 142 23 24 (.iload_n 2) [] := zat_of zP_142 rfl
theorem zi_142_24 : zat 142 24 25 (.invokevirtual 165) [138, 841, 843, 33] := zat_of zP_142 rfl
theorem zi_142_25 : zat 142 25 26 (.ifCond .eq 12) [31] := zat_of zP_142 rfl
theorem zi_142_26 : zat 142 26 27 (.aload_n 0) [] := zat_of zP_142 rfl
theorem zi_142_27 : zat 142 27 28 (.iload_n 1) [] := zat_of zP_142 rfl
theorem zi_142_28 : zat 142 28 29 (.iload_n 2) [] := zat_of zP_142 rfl
theorem zi_142_29 : zat 142 29 30 (.invokevirtual 180) [141, 852, 854, 34] := zat_of zP_142 rfl
theorem zi_142_30 : zat 142 30 31 (.goto 5) [32] := zat_of zP_142 rfl
theorem zi_142_31 : zat 142 31 32 (.bipush (-4)) [] := zat_of zP_142 rfl
theorem zi_142_32 : zat 142 32 33 (.ireturn) [] := zat_of zP_142 rfl
theorem zP_143 : zP 143 = zk_143 := rfl
theorem zi_143_0 : zat 143 0 1 (.iload_n 1) [] := zat_of zP_143 rfl
theorem zi_143_1 : zat 143 1 2 (.i2l) [] := zat_of zP_143 rfl
theorem zi_143_2 : zat 143 2 3 (.lconst 1) [] := zat_of zP_143 rfl
theorem zi_143_3 : zat 143 3 4 (.ldc2_w 183) [12, 0, 895] := zat_of zP_143 rfl
theorem zi_143_4 : zat 143 4 5 (.invokestatic 74) [112, 767, 768] := zat_of zP_143 rfl
theorem zi_143_5 : zat 143 5 6 (.ifCond .ne 5) [8] := zat_of zP_143 rfl
theorem zi_143_6 : zat 143 6 7 (.iconst (-1)) [] := zat_of zP_143 rfl
theorem zi_143_7 : zat 143 7 8 (.ireturn) [] := zat_of zP_143 rfl
theorem zi_143_8 : zat 143 8 9 (.iload_n 1) [] := zat_of zP_143 rfl
theorem zi_143_9 : zat 143 9 10 (.aload_n 0) [] := zat_of zP_143 rfl
theorem zi_143_10 : zat 143 10 11 (.getfield 94) [4, 4, 681] := zat_of zP_143 rfl
theorem zi_143_11 : zat 143 11 12 (.if_icmp .le 6) [14] := zat_of zP_143 rfl
theorem zi_143_12 : zat 143 12 13 (.bipush (-2)) [] := zat_of zP_143 rfl
theorem zi_143_13 : zat 143 13 14 (.ireturn) [] := zat_of zP_143 rfl
theorem zi_143_14 : zat 143 14 15 (.aload_n 0) [] := zat_of zP_143 rfl
theorem zi_143_15 : zat 143 15 16 (.dup) [] := zat_of zP_143 rfl
theorem zi_143_16 : zat 143 16 17 (.getfield 94) [4, 4, 681] := zat_of zP_143 rfl
theorem zi_143_17 : zat 143 17 18 (.iload_n 1) [] := zat_of zP_143 rfl
theorem zi_143_18 : zat 143 18 19 (.isub) [] := zat_of zP_143 rfl
theorem zi_143_19 : zat 143 19 20 (.putfield 94) [4, 4, 681] := zat_of zP_143 rfl
theorem zi_143_20 : zat 143 20 21 (.aload_n 0) [] := zat_of zP_143 rfl
theorem zi_143_21 : zat 143 21 22 (.iconst 0) [] := zat_of zP_143 rfl
theorem zi_143_22 : zat 143 22 23 (.putfield 137) [4, 6, 683] := zat_of zP_143 rfl
theorem zi_143_23 : zat 143 23 24 (.aload_n 0) [] := zat_of zP_143 rfl
theorem zi_143_24 : zat 143 24 25 (.getfield 94) [4, 4, 681] := zat_of zP_143 rfl
theorem zi_143_25 : zat 143 25 26 (.ireturn) [] := zat_of zP_143 rfl
theorem zP_144 : zP 144 = zk_144 := rfl
theorem zi_144_0 : zat 144 0 1 (.aload_n 0) [] := zat_of zP_144 rfl
theorem zi_144_1 : zat 144 1 2 (.getfield 137) [4, 6, 683] := zat_of zP_144 rfl
theorem zi_144_2 : zat 144 2 3 (.ifCond .eq 7) [5] := zat_of zP_144 rfl
theorem zi_144_3 : zat 144 3 4 (.iconst 1) [] := zat_of zP_144 rfl
theorem zi_144_4 : zat 144 4 5 (.goto 4) [6] := zat_of zP_144 rfl
theorem zi_144_5 : zat 144 5 6 (.iconst 0) [] := zat_of zP_144 rfl
theorem zi_144_6 : zat 144 6 7 (.istore_n 2) [] := zat_of zP_144 rfl
theorem zi_144_7 : zat 144 7 8 (.aload_n 0) [] := zat_of zP_144 rfl
theorem zi_144_8 : zat 144 8 9 (.getfield 94) [4, 4, 681] := zat_of zP_144 rfl
theorem zi_144_9 : zat 144 9 10 (.iconst 3) [] := zat_of zP_144 rfl
theorem zi_144_10 : zat 144 10 11 (.if_icmp .lt 57) [43] := zat_of zP_144 rfl
theorem zi_144_11 : zat 144 11 12 (.aload_n 0) [] := zat_of zP_144 rfl
theorem zi_144_12 : zat 144 12 13 (.aload_n 0) [] := zat_of zP_144 rfl
theorem zi_144_13 : zat 144 13 14 (.getfield 13) [4, 2, 679] := zat_of zP_144 rfl
theorem zi_144_14 : zat 144 14 15 (.iconst 0) [] := zat_of zP_144 rfl
theorem zi_144_15 : zat 144 15 16 (.iaload) [] := zat_of zP_144 rfl
theorem zi_144_16 : zat 144 16 17 (.aload_n 0) [] := zat_of zP_144 rfl
theorem zi_144_17 : zat 144 17 18 (.getfield 16) [4, 3, 680] := zat_of zP_144 rfl
theorem zi_144_18 : zat 144 18 19 (.iconst 0) [] := zat_of zP_144 rfl
theorem zi_144_19 : zat 144 19 20 (.iaload) [] := zat_of zP_144 rfl
theorem zi_144_20 : zat 144 20 21 (.invokevirtual 90) [114, 783, 785, 26] := zat_of zP_144 rfl
theorem zi_144_21 : zat 144 21 22 (.aload_n 0) [] := zat_of zP_144 rfl
theorem zi_144_22 : zat 144 22 23 (.aload_n 0) [] := zat_of zP_144 rfl
theorem zi_144_23 : zat 144 23 24 (.getfield 13) [4, 2, 679] := zat_of zP_144 rfl
theorem zi_144_24 : zat 144 24 25 (.aload_n 0) [] := zat_of zP_144 rfl
theorem zi_144_25 : zat 144 25 26 (.getfield 94) [4, 4, 681] := zat_of zP_144 rfl
theorem zi_144_26 : zat 144 26 27 (.iconst 1) [] := zat_of zP_144 rfl
theorem zi_144_27 : zat 144 27 28 (.isub) [] := zat_of zP_144 rfl
theorem zi_144_28 : zat 144 28 29 (.iaload) [] := zat_of zP_144 rfl
theorem zi_144_29 : zat 144 29 30 (.iconst 1) [] := zat_of zP_144 rfl
theorem zi_144_30 : zat 144 30 31 (.aload_n 0) [] := zat_of zP_144 rfl
theorem zi_144_31 : zat 144 31 32 (.getfield 16) [4, 3, 680] := zat_of zP_144 rfl
theorem zi_144_32 : zat 144 32 33 (.aload_n 0) [] := zat_of zP_144 rfl
theorem zi_144_33 : zat 144 33 34 (.getfield 94) [4, 4, 681] := zat_of zP_144 rfl
theorem zi_144_34 : zat 144 34 35 (.iconst 1) [] := zat_of zP_144 rfl
theorem zi_144_35 : zat 144 35 36 (.isub) [] := zat_of zP_144 rfl
theorem zi_144_36 : zat 144 36 37 (.iaload) [] := zat_of zP_144 rfl
theorem zi_144_37 : zat 144 37 38 (.isub) [] := zat_of zP_144 rfl
theorem zi_144_38 : zat 144 38 39 (.invokevirtual 90) [114, 783, 785, 26] := zat_of zP_144 rfl
theorem zi_144_39 : zat 144 39 40 (.invokestatic 161) [137, 845, 846] := zat_of zP_144 rfl
theorem zi_144_40 : zat 144 40 41 (.ifCond .eq 7) [43] := zat_of zP_144 rfl
theorem zi_144_41 : zat 144 41 42 (.iconst 1) [] := zat_of zP_144 rfl
theorem zi_144_42 : zat 144 42 43 (.goto 4) [44] := zat_of zP_144 rfl
theorem zi_144_43 : zat 144 43 44 (.iconst 0) [] := zat_of zP_144 rfl
theorem zi_144_44 : zat 144 44 45 (.istore_n 3) [] := zat_of zP_144 rfl
theorem zi_144_45 : zat 144 45 46 (.iload_n 1) [] := zat_of zP_144 rfl
theorem zi_144_46 : zat 144 46 47 (.ifCond .eq 10) [51] := zat_of zP_144 rfl
theorem zi_144_47 : zat 144 47 48 (.iload_n 3) [] := zat_of zP_144 rfl
theorem zi_144_48 : zat 144 48 49 (.ifCond .ne 6) [51] := zat_of zP_144 rfl
theorem zi_144_49 : zat 144 49 50 (.bipush (-2)) [] := zat_of zP_144 rfl
theorem zi_144_50 : zat 144 50 51 (.ireturn) [] := zat_of zP_144 rfl
theorem zi_144_51 : zat 144 51 52 (.aload_n 0) [] := zat_of zP_144 rfl
theorem zi_144_52 : zat 144 52 53 (.iload_n 1) [] := zat_of zP_144 rfl
theorem zi_144_53 : zat 144 53 54 (.putfield 137) [4, 6, 683] := zat_of zP_144 rfl
theorem zi_144_54 : zat 144 54 55 (.iload_n 2) [] := zat_of zP_144 rfl
theorem zi_144_55 : zat 144 55 56 (.ireturn) [] := zat_of zP_144 rfl
theorem zP_145 : zP 145 = zk_145 := rfl
theorem zi_145_0 : zat 145 0 1 (.aload_n 0) [] := zat_of zP_145 rfl
theorem zi_145_1 : zat 145 1 2 (.getfield 94) [4, 4, 681] := zat_of zP_145 rfl
theorem zi_145_2 : zat 145 2 3 (.ifCond .ne 6) [5] := zat_of zP_145 rfl
theorem zi_145_3 : zat 145 3 4 (.bipush (-4)) [] := zat_of zP_145 rfl
theorem zi_145_4 : zat 145 4 5 (.ireturn) [] := zat_of zP_145 rfl
theorem zi_145_5 : zat 145 5 6 (.aload_n 0) [] := zat_of zP_145 rfl
theorem zi_145_6 : zat 145 6 7 (.aload_n 0) [] := zat_of zP_145 rfl
theorem zi_145_7 : zat 145 7 8 (.invokevirtual 168) [132, 860, 862, 36] := zat_of zP_145 rfl
theorem zi_145_8 : zat 145 8 9 (.invokevirtual 150) [128, 864, 866, 37] := zat_of zP_145 rfl
theorem zi_145_9 : zat 145 9 10 (.aload_n 0) [] := zat_of zP_145 rfl
theorem zi_145_10 : zat 145 10 11 (.invokevirtual 147) [129, 876, 878, 40] := zat_of zP_145 rfl
theorem zi_145_11 : zat 145 11 12 (.istore_n 1) [] := zat_of zP_145 rfl
theorem zi_145_12 : zat 145 12 13 (.aload_n 0) [] := zat_of zP_145 rfl
theorem zi_145_13 : zat 145 13 14 (.invokevirtual 144) [130, 872, 874, 39] := zat_of zP_145 rfl
theorem zi_145_14 : zat 145 14 15 (.ifCond .eq 7) [17] := zat_of zP_145 rfl
theorem zi_145_15 : zat 145 15 16 (.iconst 1) [] := zat_of zP_145 rfl
theorem zi_145_16 : zat 145 16 17 (.goto 19) [27] := zat_of zP_145 rfl
theorem zi_145_17 : zat 145 17 18 (.iload_n 1) [] := zat_of zP_145 rfl
theorem zi_145_18 : zat 145 18 19 (.ifCond .ge 7) [21] := zat_of zP_145 rfl
theorem zi_145_19 : zat 145 19 20 (.iconst 0) [] := zat_of zP_145 rfl
theorem zi_145_20 : zat 145 20 21 (.goto 11) [27] := zat_of zP_145 rfl
theorem zi_145_21 : zat 145 21 22 (.iconst 2) [] := zat_of zP_145 rfl
theorem zi_145_22 : zat 145 22 23 (.aload_n 0) [] := zat_of zP_145 rfl
theorem zi_145_23 : zat 145 23 24 (.getfield 13) [4, 2, 679] := zat_of zP_145 rfl
theorem zi_145_24 : zat 145 24 25 (.iload_n 1) [] := zat_of zP_145 rfl
theorem zi_145_25 : zat 145 25 26 (.iaload) [] := zat_of zP_145 rfl
theorem zi_145_26 : zat 145 26 27 (.iadd) [] := zat_of zP_145 rfl
theorem zi_145_27 : zat 145 27 28 (.ireturn) [] := zat_of zP_145 rfl
theorem zP_146 : zP 146 = zk_146 := rfl
theorem zi_146_0 : zat 146 0 1 (.iload_n 1) [] := zat_of zP_146 rfl
theorem zi_146_1 : zat 146 1 2 (.i2l) [] := zat_of zP_146 rfl
theorem zi_146_2 : zat 146 2 3 (.ldc2_w 185) [99, 1, 908] := zat_of zP_146 rfl
theorem zi_146_3 : zat 146 3 4 (.ldc2_w 187) [99, 0, 909] := zat_of zP_146 rfl
theorem zi_146_4 : zat 146 4 5 (.invokestatic 74) [112, 767, 768] := zat_of zP_146 rfl
theorem zi_146_5 : zat 146 5 6 (.ifCond .ne 5) [8] := zat_of zP_146 rfl
theorem zi_146_6 : zat 146 6 7 (.iconst (-1)) [] := zat_of zP_146 rfl
theorem zi_146_7 : zat 146 7 8 (.ireturn) [] := zat_of zP_146 rfl
theorem zi_146_8 : zat 146 8 9 (.aload_n 0) [] := zat_of zP_146 rfl
theorem zi_146_9 : zat 146 9 10 (.getfield 94) [4, 4, 681] := zat_of zP_146 rfl
theorem zi_146_10 : zat 146 10 11 (.ifCond .ne 6) [13] := zat_of zP_146 rfl
theorem zi_146_11 : zat 146 11 12 (.bipush (-4)) [] := zat_of zP_146 rfl
theorem zi_146_12 : zat 146 12 13 (.ireturn) [] := zat_of zP_146 rfl
theorem zi_146_13 : zat 146 13 14 (.aload_n 0) [] := zat_of zP_146 rfl
theorem zi_146_14 : zat 146 14 15 (.iload_n 1) [] := zat_of zP_146 rfl
theorem zi_146_15 : zat 146 15 16 (.ifCond .ge 7) [18] := zat_of zP_146 rfl
theorem zi_146_16 : zat 146 16 17 (.iconst (-1)) [] := zat_of zP_146 rfl
theorem zi_146_17 : zat 146 17 18 (.goto 4) [19] := zat_of zP_146 rfl
theorem zi_146_18 : zat 146 18 19 (.iconst 1) [] := zat_of zP_146 rfl
theorem zi_146_19 : zat 146 19 20 (.invokevirtual 150) [128, 864, 866, 37] := zat_of zP_146 rfl
theorem zi_146_20 : zat 146 20 21 (.iload_n 1) [] := zat_of zP_146 rfl
theorem zi_146_21 : zat 146 21 22 (.ifCond .eq 13) [27] := zat_of zP_146 rfl
theorem zi_146_22 : zat 146 22 23 (.aload_n 0) [] := zat_of zP_146 rfl
theorem zi_146_23 : zat 146 23 24 (.invokevirtual 171) [131, 868, 870, 38] := zat_of zP_146 rfl
theorem zi_146_24 : zat 146 24 25 (.ifCond .eq 6) [27] := zat_of zP_146 rfl
theorem zi_146_25 : zat 146 25 26 (.bipush (-2)) [] := zat_of zP_146 rfl
theorem zi_146_26 : zat 146 26 27 (.ireturn) [] := zat_of zP_146 rfl
theorem zi_146_27 : zat 146 27 28 (.aload_n 0) [] := zat_of zP_146 rfl
theorem zi_146_28 : zat 146 28 29 (.iload_n 1) [] := zat_of zP_146 rfl
theorem zi_146_29 : zat 146 29 30 (.ifCond .ge 8) [33] := zat_of zP_146 rfl
theorem zi_146_30 : zat 146 30 31 (.iload_n 1) [] := zat_of zP_146 rfl
theorem zi_146_31 : zat 146 31 32 (.ineg) [] := zat_of zP_146 rfl
theorem zi_146_32 : zat 146 32 33 (.goto 4) [34] := zat_of zP_146 rfl
theorem zi_146_33 : zat 146 33 34 (.iload_n 1) [] := zat_of zP_146 rfl
theorem zi_146_34 : zat 146 34 35 (.invokevirtual 174) [134, 884, 886, 42] := zat_of zP_146 rfl
theorem zi_146_35 : zat 146 35 36 (.aload_n 0) [] := zat_of zP_146 rfl
theorem zi_146_36 : zat 146 36 37 (.invokevirtual 158) [135, 833, 835, 32] := zat_of zP_146 rfl
theorem zi_146_37 : zat 146 37 38 (.ireturn) [] := zat_of zP_146 rfl
theorem zP_147 : zP 147 = zk_147 := rfl
theorem zi_147_0 : zat 147 0 1 (.aload_n 0) [] := zat_of zP_147 rfl
theorem zi_147_1 : zat 147 1 2 (.iconst 1) [] := zat_of zP_147 rfl
theorem zi_147_2 : zat 147 2 3 (.invokevirtual 150) [128, 864, 866, 37] := zat_of zP_147 rfl
theorem zi_147_3 : zat 147 3 4 (.aload_n 0) [] := zat_of zP_147 rfl
theorem zi_147_4 : zat 147 4 5 (.invokevirtual 171) [131, 868, 870, 38] := zat_of zP_147 rfl
theorem zi_147_5 : zat 147 5 6 (.ireturn) [] := zat_of zP_147 rfl
theorem zP_148 : zP 148 = zk_148 := rfl
theorem zi_148_0 : zat 148 0 1 (.iload_n 0) [] := zat_of zP_148 rfl
theorem zi_148_1 : zat 148 1 2 (.istore_n 2) [] := zat_of zP_148 rfl
theorem zi_148_2 : zat 148 2 3 (.iload_n 1) [] := zat_of zP_148 rfl
theorem zi_148_3 : zat 148 3 4 (.istore_n 3) [] := zat_of zP_148 rfl
theorem zi_148_4 : zat 148 4 5 (.iload_n 3) [] := zat_of zP_148 rfl
theorem zi_148_5 : zat 148 5 6 (.ifCond .eq 16) [15] := zat_of zP_148 rfl
theorem zi_148_6 : zat 148 6 7 (.iload_n 2) [] := zat_of zP_148 rfl
theorem zi_148_7 : zat 148 7 8 (.iload_n 3) [] := zat_of zP_148 rfl
theorem zi_148_8 : zat 148 8 9 (.irem) [] := zat_of zP_148 rfl
theorem zi_148_9 : zat 148 9 10 (.istore 4) [] := zat_of zP_148 rfl
theorem zi_148_10 : zat 148 10 11 (.iload_n 3) [] := zat_of zP_148 rfl
theorem zi_148_11 : zat 148 11 12 (.istore_n 2) [] := zat_of zP_148 rfl
theorem zi_148_12 : zat 148 12 13 (.iload 4) [] := zat_of zP_148 rfl
theorem zi_148_13 : zat 148 13 14 (.istore_n 3) [] := zat_of zP_148 rfl
theorem zi_148_14 : zat 148 14 15 (.goto (-14)) [4] := zat_of zP_148 rfl
theorem zi_148_15 : zat 148 15 16 (.iload_n 2) [] := zat_of zP_148 rfl
theorem zi_148_16 : zat 148 16 17 (.ireturn) [] := zat_of zP_148 rfl
theorem zP_149 : zP 149 = zk_149 := rfl
theorem zi_149_0 : zat 149 0 1 (.iconst 1) [] := zat_of zP_149 rfl
theorem zi_149_1 : zat 149 1 2 (.istore_n 1) [] := zat_of zP_149 rfl
theorem zi_149_2 : zat 149 2 3 (.iconst 0) [] := zat_of zP_149 rfl
theorem zi_149_3 : zat 149 3 4 (.istore_n 2) [] := zat_of zP_149 rfl
theorem zi_149_4 : zat 149 4 5 (.iload_n 2) [] := zat_of zP_149 rfl
theorem zi_149_5 : zat 149 5 6 (.iconst 2) [] := zat_of zP_149 rfl
theorem zi_149_6 : zat 149 6 7 (.aload_n 0) [] := zat_of zP_149 rfl
theorem zi_149_7 : zat 149 7 8 (.getfield 94) [4, 4, 681] := zat_of zP_149 rfl
theorem zi_149_8 : zat 149 8 9 (.imul) [] := zat_of zP_149 rfl
theorem zi_149_9 : zat 149 9 10 (.if_icmp .ge 35) [32] := zat_of zP_149 rfl
theorem zi_149_10 : zat 149 10 11 (.aload_n 0) [] := zat_of zP_149 rfl
theorem zi_149_11 : zat 149 11 12 (.aload_n 0) [] := zat_of zP_149 rfl
theorem zi_149_12 : zat 149 12 13 (.getfield 13) [4, 2, 679] := zat_of zP_149 rfl
theorem zi_149_13 : zat 149 13 14 (.iload_n 2) [] := zat_of zP_149 rfl
theorem zi_149_14 : zat 149 14 15 (.iconst 2) [] := zat_of zP_149 rfl
theorem zi_149_15 : zat 149 15 16 (.idiv) [] := zat_of zP_149 rfl
theorem zi_149_16 : zat 149 16 17 (.iaload) [] := zat_of zP_149 rfl
theorem zi_149_17 : zat 149 17 18 (.iload_n 2) [] := zat_of zP_149 rfl
theorem zi_149_18 : zat 149 18 19 (.iconst 2) [] := zat_of zP_149 rfl
theorem zi_149_19 : zat 149 19 20 (.irem) [] := zat_of zP_149 rfl
theorem zi_149_20 : zat 149 20 21 (.invokevirtual 90) [114, 783, 785, 26] := zat_of zP_149 rfl
theorem zi_149_21 : zat 149 21 22 (.istore_n 3) [] := zat_of zP_149 rfl
theorem zi_149_22 : zat 149 22 23 (.iload_n 1) [] := zat_of zP_149 rfl
theorem zi_149_23 : zat 149 23 24 (.iload_n 1) [] := zat_of zP_149 rfl
theorem zi_149_24 : zat 149 24 25 (.iload_n 3) [] := zat_of zP_149 rfl
theorem zi_149_25 : zat 149 25 26 (.invokestatic 189) [148, 922, 923] := zat_of zP_149 rfl
theorem zi_149_26 : zat 149 26 27 (.idiv) [] := zat_of zP_149 rfl
theorem zi_149_27 : zat 149 27 28 (.iload_n 3) [] := zat_of zP_149 rfl
theorem zi_149_28 : zat 149 28 29 (.imul) [] := zat_of zP_149 rfl
theorem zi_149_29 : zat 149 29 30 (.istore_n 1) [] := zat_of zP_149 rfl
theorem zi_149_30 : zat 149 30 31 (.iinc 2 1) [] := zat_of zP_149 rfl
theorem zi_149_31 : zat 149 31 32 (.goto (-39)) [4] := zat_of zP_149 rfl
theorem zi_149_32 : zat 149 32 33 (.iload_n 1) [] := zat_of zP_149 rfl
theorem zi_149_33 : zat 149 33 34 (.ireturn) [] := zat_of zP_149 rfl
theorem zP_150 : zP 150 = zk_150 := rfl
theorem zi_150_0 : zat 150 0 1 (.aload_n 0) [] := zat_of zP_150 rfl
theorem zi_150_1 : zat 150 1 2 (.getfield 94) [4, 4, 681] := zat_of zP_150 rfl
theorem zi_150_2 : zat 150 2 3 (.ifCond .ne 8) [5] := zat_of zP_150 rfl
theorem zi_150_3 : zat 150 3 4 (.bipush (-4)) [] := zat_of zP_150 rfl
theorem zi_150_4 : zat 150 4 5 (.goto 19) [12] := zat_of zP_150 rfl
theorem zi_150_5 : zat 150 5 6 (.aload_n 0) [] := zat_of zP_150 rfl
theorem zi_150_6 : zat 150 6 7 (.invokevirtual 192) [147, 914, 916, 43] := zat_of zP_150 rfl
theorem zi_150_7 : zat 150 7 8 (.ifCond .eq 8) [10] := zat_of zP_150 rfl
theorem zi_150_8 : zat 150 8 9 (.bipush (-2)) [] := zat_of zP_150 rfl
theorem zi_150_9 : zat 150 9 10 (.goto 7) [12] := zat_of zP_150 rfl
theorem zi_150_10 : zat 150 10 11 (.aload_n 0) [] := zat_of zP_150 rfl
theorem zi_150_11 : zat 150 11 12 (.invokevirtual 195) [149, 918, 920, 44] := zat_of zP_150 rfl
theorem zi_150_12 : zat 150 12 13 (.ireturn) [] := zat_of zP_150 rfl
theorem zP_151 : zP 151 = zk_151 := rfl
theorem zi_151_0 : zat 151 0 1 (.iconst 0) [] := zat_of zP_151 rfl
theorem zi_151_1 : zat 151 1 2 (.iload_n 3) [] := zat_of zP_151 rfl
theorem zi_151_2 : zat 151 2 3 (.iload_n 2) [] := zat_of zP_151 rfl
theorem zi_151_3 : zat 151 3 4 (.iload_n 1) [] := zat_of zP_151 rfl
theorem zi_151_4 : zat 151 4 5 (.isub) [] := zat_of zP_151 rfl
theorem zi_151_5 : zat 151 5 6 (.imul) [] := zat_of zP_151 rfl
theorem zi_151_6 : zat 151 6 7 (.iload 4) [] := zat_of zP_151 rfl
theorem zi_151_7 : zat 151 7 8 (.invokestatic 154) [133, 888, 889] := zat_of zP_151 rfl
theorem zi_151_8 : zat 151 8 9 (.ireturn) [] := zat_of zP_151 rfl
theorem zP_152 : zP 152 = zk_152 := rfl
theorem zi_152_0 : zat 152 0 1 (.iconst 1) [] := zat_of zP_152 rfl
theorem zi_152_1 : zat 152 1 2 (.istore_n 2) [] := zat_of zP_152 rfl
theorem zi_152_2 : zat 152 2 3 (.iconst 0) [] := zat_of zP_152 rfl
theorem zi_152_3 : zat 152 3 4 (.istore_n 3) [] := zat_of zP_152 rfl
theorem zi_152_4 : zat 152 4 5 (.iload_n 3) [] := zat_of zP_152 rfl
theorem zi_152_5 : zat 152 5 6 (.aload_n 0) [] := zat_of zP_152 rfl
theorem zi_152_6 : zat 152 6 7 (.getfield 94) [4, 4, 681] := zat_of zP_152 rfl
theorem zi_152_7 : zat 152 7 8 (.if_icmp .ge 133) [86] := zat_of zP_152 rfl
theorem zi_152_8 : zat 152 8 9 (.iload_n 2) [] := zat_of zP_152 rfl
theorem zi_152_9 : zat 152 9 10 (.ifCond .eq 129) [86] := zat_of zP_152 rfl
theorem zi_152_10 : zat 152 10 11 (.aload_n 0) [] := zat_of zP_152 rfl
theorem zi_152_11 : zat 152 11 12 (.getfield 13) [4, 2, 679] := zat_of zP_152 rfl
theorem zi_152_12 : zat 152 12 13 (.iload_n 3) [] := zat_of zP_152 rfl
theorem zi_152_13 : zat 152 13 14 (.iaload) [] := zat_of zP_152 rfl
theorem zi_152_14 : zat 152 14 15 (.istore 4) [] := zat_of zP_152 rfl
theorem zi_152_15 : zat 152 15 16 (.aload_n 0) [] := zat_of zP_152 rfl
theorem zi_152_16 : zat 152 16 17 (.getfield 16) [4, 3, 680] := zat_of zP_152 rfl
theorem zi_152_17 : zat 152 17 18 (.iload_n 3) [] := zat_of zP_152 rfl
theorem zi_152_18 : zat 152 18 19 (.iaload) [] := zat_of zP_152 rfl
theorem zi_152_19 : zat 152 19 20 (.istore 5) [] := zat_of zP_152 rfl
theorem zi_152_20 : zat 152 20 21 (.iload_n 1) [] := zat_of zP_152 rfl
theorem zi_152_21 : zat 152 21 22 (.aload_n 0) [] := zat_of zP_152 rfl
theorem zi_152_22 : zat 152 22 23 (.iload 4) [] := zat_of zP_152 rfl
theorem zi_152_23 : zat 152 23 24 (.iload 5) [] := zat_of zP_152 rfl
theorem zi_152_24 : zat 152 24 25 (.invokevirtual 90) [114, 783, 785, 26] := zat_of zP_152 rfl
theorem zi_152_25 : zat 152 25 26 (.irem) [] := zat_of zP_152 rfl
theorem zi_152_26 : zat 152 26 27 (.aload_n 0) [] := zat_of zP_152 rfl
theorem zi_152_27 : zat 152 27 28 (.aload_n 0) [] := zat_of zP_152 rfl
theorem zi_152_28 : zat 152 28 29 (.getfield 7) [4, 0, 677] := zat_of zP_152 rfl
theorem zi_152_29 : zat 152 29 30 (.bipush 6) [] := zat_of zP_152 rfl
theorem zi_152_30 : zat 152 30 31 (.iload 4) [] := zat_of zP_152 rfl
theorem zi_152_31 : zat 152 31 32 (.imul) [] := zat_of zP_152 rfl
theorem zi_152_32 : zat 152 32 33 (.iconst 3) [] := zat_of zP_152 rfl
theorem zi_152_33 : zat 152 33 34 (.iadd) [] := zat_of zP_152 rfl
theorem zi_152_34 : zat 152 34 35 (.iload 5) [] := zat_of zP_152 rfl
theorem zi_152_35 : zat 152 35 36 (.iadd) [] := zat_of zP_152 rfl
theorem zi_152_36 : zat 152 36 37 (.iaload) [] := zat_of zP_152 rfl
theorem zi_152_37 : zat 152 37 38 (.iconst 0) [] := zat_of zP_152 rfl
theorem zi_152_38 : zat 152 38 39 (.aload_n 0) [] := zat_of zP_152 rfl
theorem zi_152_39 : zat 152 39 40 (.getfield 32) [4, 13, 690] := zat_of zP_152 rfl
theorem zi_152_40 : zat 152 40 41 (.iload_n 3) [] := zat_of zP_152 rfl
theorem zi_152_41 : zat 152 41 42 (.iaload) [] := zat_of zP_152 rfl
theorem zi_152_42 : zat 152 42 43 (.aload_n 0) [] := zat_of zP_152 rfl
theorem zi_152_43 : zat 152 43 44 (.iload 4) [] := zat_of zP_152 rfl
theorem zi_152_44 : zat 152 44 45 (.iload 5) [] := zat_of zP_152 rfl
theorem zi_152_45 : zat 152 45 46 (.invokevirtual 90) [114, 783, 785, 26] := zat_of zP_152 rfl
theorem zi_152_46 : zat 152 46 47 (.invokevirtual 198) [151, 933, 935, 46] := zat_of zP_152 rfl
theorem zi_152_47 : zat 152 47 48 (.if_icmp .ne 58) [82] := zat_of zP_152 rfl
theorem zi_152_48 : zat 152 48 49 (.iload_n 1) [] := zat_of zP_152 rfl
theorem zi_152_49 : zat 152 49 50 (.aload_n 0) [] := zat_of zP_152 rfl
theorem zi_152_50 : zat 152 50 51 (.iload 4) [] := zat_of zP_152 rfl
theorem zi_152_51 : zat 152 51 52 (.iconst 1) [] := zat_of zP_152 rfl
theorem zi_152_52 : zat 152 52 53 (.iload 5) [] := zat_of zP_152 rfl
theorem zi_152_53 : zat 152 53 54 (.isub) [] := zat_of zP_152 rfl
theorem zi_152_54 : zat 152 54 55 (.invokevirtual 90) [114, 783, 785, 26] := zat_of zP_152 rfl
theorem zi_152_55 : zat 152 55 56 (.irem) [] := zat_of zP_152 rfl
theorem zi_152_56 : zat 152 56 57 (.aload_n 0) [] := zat_of zP_152 rfl
theorem zi_152_57 : zat 152 57 58 (.aload_n 0) [] := zat_of zP_152 rfl
theorem zi_152_58 : zat 152 58 59 (.getfield 7) [4, 0, 677] := zat_of zP_152 rfl
theorem zi_152_59 : zat 152 59 60 (.bipush 6) [] := zat_of zP_152 rfl
theorem zi_152_60 : zat 152 60 61 (.iload 4) [] := zat_of zP_152 rfl
theorem zi_152_61 : zat 152 61 62 (.imul) [] := zat_of zP_152 rfl
theorem zi_152_62 : zat 152 62 63 (.iconst 4) [] := zat_of zP_152 rfl
theorem zi_152_63 : zat 152 63 64 (.iadd) [] := zat_of zP_152 rfl
theorem zi_152_64 : zat 152 64 65 (.iload 5) [] := zat_of zP_152 rfl
theorem zi_152_65 : zat 152 65 66 (.isub) [] := zat_of zP_152 rfl
theorem zi_152_66 : zat 152 66 67 (.iaload) [] := zat_of zP_152 rfl
theorem zi_152_67 : zat 152 67 68 (.iconst 0) [] := zat_of zP_152 rfl
theorem zi_152_68 : zat 152 68 69 (.aload_n 0) [] := zat_of zP_152 rfl
theorem zi_152_69 : zat 152 69 70 (.getfield 35) [4, 14, 691] := zat_of zP_152 rfl
theorem zi_152_70 : zat 152 70 71 (.iload_n 3) [] := zat_of zP_152 rfl
theorem zi_152_71 : zat 152 71 72 (.iaload) [] := zat_of zP_152 rfl
theorem zi_152_72 : zat 152 72 73 (.aload_n 0) [] := zat_of zP_152 rfl
theorem zi_152_73 : zat 152 73 74 (.iload 4) [] := zat_of zP_152 rfl
theorem zi_152_74 : zat 152 74 75 (.iconst 1) [] := zat_of zP_152 rfl
theorem zi_152_75 : zat 152 75 76 (.iload 5) [] := zat_of zP_152 rfl
theorem zi_152_76 : zat 152 76 77 (.isub) [] := zat_of zP_152 rfl
theorem zi_152_77 : zat 152 77 78 (.invokevirtual 90) [114, 783, 785, 26] := zat_of zP_152 rfl
theorem zi_152_78 : zat 152 78 79 (.invokevirtual 198) [151, 933, 935, 46] := zat_of zP_152 rfl
theorem zi_152_79 : zat 152 79 80 (.if_icmp .ne 7) [82] := zat_of zP_152 rfl
theorem zi_152_80 : zat 152 80 81 (.iconst 1) [] := zat_of zP_152 rfl
theorem zi_152_81 : zat 152 81 82 (.goto 4) [83] := zat_of zP_152 rfl
theorem zi_152_82 : zat 152 82 83 (.iconst 0) [] := zat_of zP_152 rfl
theorem zi_152_83 : zat 152 83 84 (.istore_n 2) [] := zat_of zP_152 rfl
theorem zi_152_84 : zat 152 84 85 (.iinc 3 1) [] := zat_of zP_152 rfl
theorem zi_152_85 : zat 152 85 86 (.goto (-135)) [4] := zat_of zP_152 rfl
theorem zi_152_86 : zat 152 86 87 (.iload_n 2) [] := zat_of zP_152 rfl
theorem zi_152_87 : zat 152 87 88 (.ireturn) [] := zat_of zP_152 rfl
theorem zP_153 : zP 153 = zk_153 := rfl
theorem zi_153_0 : zat 153 0 1 (.aload_n 0) [] := zat_of zP_153 rfl
theorem zi_153_1 : zat 153 1 2 (.getfield 94) [4, 4, 681] := zat_of zP_153 rfl
theorem zi_153_2 : zat 153 2 3 (.ifCond .ne 6) [5] := zat_of zP_153 rfl
theorem zi_153_3 : zat 153 3 4 (.bipush (-4)) [] := zat_of zP_153 rfl
theorem zi_153_4 : zat 153 4 5 (.ireturn) [] := zat_of zP_153 rfl
theorem zi_153_5 : zat 153 5 6 (.aload_n 0) [] := zat_of zP_153 rfl
theorem zi_153_6 : zat 153 6 7 (.invokevirtual 192) [147, 914, 916, 43] := zat_of zP_153 rfl
theorem zi_153_7 : zat 153 7 8 (.ifCond .eq 6) [10] := zat_of zP_153 rfl
theorem zi_153_8 : zat 153 8 9 (.bipush (-2)) [] := zat_of zP_153 rfl
theorem zi_153_9 : zat 153 9 10 (.ireturn) [] := zat_of zP_153 rfl
theorem zi_153_10 : zat 153 10 11 (.aload_n 0) [] := zat_of zP_153 rfl
theorem zi_153_11 : zat 153 11 12 (.invokevirtual 195) [149, 918, 920, 44] := zat_of zP_153 rfl
theorem zi_153_12 : zat 153 12 13 (.istore_n 1) [] := zat_of zP_153 rfl
theorem zi_153_13 : zat 153 13 14 (.iconst 0) [] := zat_of zP_153 rfl
theorem zi_153_14 : zat 153 14 15 (.istore_n 2) [] := zat_of zP_153 rfl
theorem zi_153_15 : zat 153 15 16 (.iload_n 2) [] := zat_of zP_153 rfl
theorem zi_153_16 : zat 153 16 17 (.iload_n 1) [] := zat_of zP_153 rfl
theorem zi_153_17 : zat 153 17 18 (.if_icmp .ge 19) [26] := zat_of zP_153 rfl
theorem zi_153_18 : zat 153 18 19 (.aload_n 0) [] := zat_of zP_153 rfl
theorem zi_153_19 : zat 153 19 20 (.iload_n 2) [] := zat_of zP_153 rfl
theorem zi_153_20 : zat 153 20 21 (.invokevirtual 202) [152, 929, 931, 45] := zat_of zP_153 rfl
theorem zi_153_21 : zat 153 21 22 (.ifCond .eq 5) [24] := zat_of zP_153 rfl
theorem zi_153_22 : zat 153 22 23 (.iload_n 2) [] := zat_of zP_153 rfl
theorem zi_153_23 : zat 153 23 24 (.ireturn) [] := zat_of zP_153 rfl
theorem zi_153_24 : zat 153 24 25 (.iinc 2 1) [] := zat_of zP_153 rfl
theorem zi_153_25 : zat 153 25 26 (.goto (-18)) [15] := zat_of zP_153 rfl
theorem zi_153_26 : zat 153 26 27 (.bipush (-4)) [] := zat_of zP_153 rfl
theorem zi_153_27 : zat 153 27 28 (.ireturn) [] := zat_of zP_153 rfl
theorem zP_154 : zP 154 = zk_154 := rfl
theorem zi_154_0 : zat 154 0 1 (.aload_n 0) [] := zat_of zP_154 rfl
theorem zi_154_1 : zat 154 1 2 (.iload_n 1) [] := zat_of zP_154 rfl
theorem zi_154_2 : zat 154 2 3 (.invokevirtual 86) [113, 779, 781, 25] := zat_of zP_154 rfl
theorem zi_154_3 : zat 154 3 4 (.ifCond .eq 11) [8] := zat_of zP_154 rfl
theorem zi_154_4 : zat 154 4 5 (.aload_n 0) [] := zat_of zP_154 rfl
theorem zi_154_5 : zat 154 5 6 (.iload_n 1) [] := zat_of zP_154 rfl
theorem zi_154_6 : zat 154 6 7 (.invokevirtual 99) [118, 792, 794, 27] := zat_of zP_154 rfl
theorem zi_154_7 : zat 154 7 8 (.goto 5) [9] := zat_of zP_154 rfl
theorem zi_154_8 : zat 154 8 9 (.bipush (-4)) [] := zat_of zP_154 rfl
theorem zi_154_9 : zat 154 9 10 (.istore_n 3) [] := zat_of zP_154 rfl
theorem zi_154_10 : zat 154 10 11 (.iload_n 3) [] := zat_of zP_154 rfl
theorem zi_154_11 : zat 154 11 12 (.ifCond .lt 28) [29] := zat_of zP_154 rfl
theorem zi_154_12 : zat 154 12 13 (.iload_n 2) [] := zat_of zP_154 rfl
theorem zi_154_13 : zat 154 13 14 (.i2l) [] := zat_of zP_154 rfl
theorem zi_154_14 : zat 154 14 15 (.lconst 0) [] := zat_of zP_154 rfl
theorem zi_154_15 : zat 154 15 16 (.aload_n 0) [] := zat_of zP_154 rfl
theorem zi_154_16 : zat 154 16 17 (.iload_n 1) [] := zat_of zP_154 rfl
theorem zi_154_17 : zat 154 17 18 (.iconst 1) [] := zat_of zP_154 rfl
theorem zi_154_18 : zat 154 18 19 (.aload_n 0) [] := zat_of zP_154 rfl
theorem zi_154_19 : zat 154 19 20 (.getfield 16) [4, 3, 680] := zat_of zP_154 rfl
theorem zi_154_20 : zat 154 20 21 (.iload_n 3) [] := zat_of zP_154 rfl
theorem zi_154_21 : zat 154 21 22 (.iaload) [] := zat_of zP_154 rfl
theorem zi_154_22 : zat 154 22 23 (.isub) [] := zat_of zP_154 rfl
theorem zi_154_23 : zat 154 23 24 (.invokevirtual 90) [114, 783, 785, 26] := zat_of zP_154 rfl
theorem zi_154_24 : zat 154 24 25 (.iconst 1) [] := zat_of zP_154 rfl
theorem zi_154_25 : zat 154 25 26 (.isub) [] := zat_of zP_154 rfl
theorem zi_154_26 : zat 154 26 27 (.i2l) [] := zat_of zP_154 rfl
theorem zi_154_27 : zat 154 27 28 (.invokestatic 74) [112, 767, 768] := zat_of zP_154 rfl
theorem zi_154_28 : zat 154 28 29 (.ifCond .ne 5) [31] := zat_of zP_154 rfl
theorem zi_154_29 : zat 154 29 30 (.iconst (-1)) [] := zat_of zP_154 rfl
theorem zi_154_30 : zat 154 30 31 (.ireturn) [] := zat_of zP_154 rfl
theorem zi_154_31 : zat 154 31 32 (.aload_n 0) [] := zat_of zP_154 rfl
theorem zi_154_32 : zat 154 32 33 (.invokevirtual 192) [147, 914, 916, 43] := zat_of zP_154 rfl
theorem zi_154_33 : zat 154 33 34 (.ifCond .eq 6) [36] := zat_of zP_154 rfl
theorem zi_154_34 : zat 154 34 35 (.bipush (-2)) [] := zat_of zP_154 rfl
theorem zi_154_35 : zat 154 35 36 (.ireturn) [] := zat_of zP_154 rfl
theorem zi_154_36 : zat 154 36 37 (.iconst 1) [] := zat_of zP_154 rfl
theorem zi_154_37 : zat 154 37 38 (.aload_n 0) [] := zat_of zP_154 rfl
theorem zi_154_38 : zat 154 38 39 (.getfield 16) [4, 3, 680] := zat_of zP_154 rfl
theorem zi_154_39 : zat 154 39 40 (.iload_n 3) [] := zat_of zP_154 rfl
theorem zi_154_40 : zat 154 40 41 (.iaload) [] := zat_of zP_154 rfl
theorem zi_154_41 : zat 154 41 42 (.isub) [] := zat_of zP_154 rfl
theorem zi_154_42 : zat 154 42 43 (.istore 4) [] := zat_of zP_154 rfl
theorem zi_154_43 : zat 154 43 44 (.aload_n 0) [] := zat_of zP_154 rfl
theorem zi_154_44 : zat 154 44 45 (.aload_n 0) [] := zat_of zP_154 rfl
theorem zi_154_45 : zat 154 45 46 (.getfield 7) [4, 0, 677] := zat_of zP_154 rfl
theorem zi_154_46 : zat 154 46 47 (.bipush 6) [] := zat_of zP_154 rfl
theorem zi_154_47 : zat 154 47 48 (.iload_n 1) [] := zat_of zP_154 rfl
theorem zi_154_48 : zat 154 48 49 (.imul) [] := zat_of zP_154 rfl
theorem zi_154_49 : zat 154 49 50 (.iconst 3) [] := zat_of zP_154 rfl
theorem zi_154_50 : zat 154 50 51 (.iadd) [] := zat_of zP_154 rfl
theorem zi_154_51 : zat 154 51 52 (.iload 4) [] := zat_of zP_154 rfl
theorem zi_154_52 : zat 154 52 53 (.iadd) [] := zat_of zP_154 rfl
theorem zi_154_53 : zat 154 53 54 (.iaload) [] := zat_of zP_154 rfl
theorem zi_154_54 : zat 154 54 55 (.iload_n 2) [] := zat_of zP_154 rfl
theorem zi_154_55 : zat 154 55 56 (.aload_n 0) [] := zat_of zP_154 rfl
theorem zi_154_56 : zat 154 56 57 (.getfield 35) [4, 14, 691] := zat_of zP_154 rfl
theorem zi_154_57 : zat 154 57 58 (.iload_n 3) [] := zat_of zP_154 rfl
theorem zi_154_58 : zat 154 58 59 (.iaload) [] := zat_of zP_154 rfl
theorem zi_154_59 : zat 154 59 60 (.aload_n 0) [] := zat_of zP_154 rfl
theorem zi_154_60 : zat 154 60 61 (.iload_n 1) [] := zat_of zP_154 rfl
theorem zi_154_61 : zat 154 61 62 (.iload 4) [] := zat_of zP_154 rfl
theorem zi_154_62 : zat 154 62 63 (.invokevirtual 90) [114, 783, 785, 26] := zat_of zP_154 rfl
theorem zi_154_63 : zat 154 63 64 (.invokevirtual 198) [151, 933, 935, 46] := zat_of zP_154 rfl
theorem zi_154_64 : zat 154 64 65 (.ireturn) [] := zat_of zP_154 rfl
theorem zP_155 : zP 155 = zk_155 := rfl
theorem zi_155_0 : zat 155 0 1 (.iconst 0) [] := zat_of zP_155 rfl
theorem zi_155_1 : zat 155 1 2 (.istore_n 2) [] := zat_of zP_155 rfl
theorem zi_155_2 : zat 155 2 3 (.iload_n 2) [] := zat_of zP_155 rfl
theorem zi_155_3 : zat 155 3 4 (.bipush 72) [] := zat_of zP_155 rfl
theorem zi_155_4 : zat 155 4 5 (.if_icmp .ge 18) [14] := zat_of zP_155 rfl
theorem zi_155_5 : zat 155 5 6 (.aload_n 1) [] := zat_of zP_155 rfl
theorem zi_155_6 : zat 155 6 7 (.iload_n 2) [] := zat_of zP_155 rfl
theorem zi_155_7 : zat 155 7 8 (.aload_n 0) [] := zat_of zP_155 rfl
theorem zi_155_8 : zat 155 8 9 (.getfield 7) [4, 0, 677] := zat_of zP_155 rfl
theorem zi_155_9 : zat 155 9 10 (.iload_n 2) [] := zat_of zP_155 rfl
theorem zi_155_10 : zat 155 10 11 (.iaload) [] := zat_of zP_155 rfl
theorem zi_155_11 : zat 155 11 12 (.iastore) [] := zat_of zP_155 rfl
theorem zi_155_12 : zat 155 12 13 (.iinc 2 1) [] := zat_of zP_155 rfl
theorem zi_155_13 : zat 155 13 14 (.goto (-18)) [2] := zat_of zP_155 rfl
theorem zi_155_14 : zat 155 14 15 (.return_) [] := zat_of zP_155 rfl
theorem zP_156 : zP 156 = zk_156 := rfl
theorem zi_156_0 : zat 156 0 1 (.iconst 0) [] := zat_of zP_156 rfl
theorem zi_156_1 : zat 156 1 2 (.istore_n 3) [] := zat_of zP_156 rfl
theorem zi_156_2 : zat 156 2 3 (.iload_n 3) [] := zat_of zP_156 rfl
theorem zi_156_3 : zat 156 3 4 (.bipush 72) [] := zat_of zP_156 rfl
theorem zi_156_4 : zat 156 4 5 (.if_icmp .ge 18) [14] := zat_of zP_156 rfl
theorem zi_156_5 : zat 156 5 6 (.aload_n 0) [] := zat_of zP_156 rfl
theorem zi_156_6 : zat 156 6 7 (.getfield 7) [4, 0, 677] := zat_of zP_156 rfl
theorem zi_156_7 : zat 156 7 8 (.iload_n 3) [] := zat_of zP_156 rfl
theorem zi_156_8 : zat 156 8 9 (.aload_n 1) [] := zat_of zP_156 rfl
theorem zi_156_9 : zat 156 9 10 (.iload_n 3) [] := zat_of zP_156 rfl
theorem zi_156_10 : zat 156 10 11 (.iaload) [] := zat_of zP_156 rfl
theorem zi_156_11 : zat 156 11 12 (.iastore) [] := zat_of zP_156 rfl
theorem zi_156_12 : zat 156 12 13 (.iinc 3 1) [] := zat_of zP_156 rfl
theorem zi_156_13 : zat 156 13 14 (.goto (-18)) [2] := zat_of zP_156 rfl
theorem zi_156_14 : zat 156 14 15 (.aload_n 0) [] := zat_of zP_156 rfl
theorem zi_156_15 : zat 156 15 16 (.iload_n 2) [] := zat_of zP_156 rfl
theorem zi_156_16 : zat 156 16 17 (.putfield 94) [4, 4, 681] := zat_of zP_156 rfl
theorem zi_156_17 : zat 156 17 18 (.return_) [] := zat_of zP_156 rfl
theorem zP_157 : zP 157 = zk_157 := rfl
theorem zi_157_0 : zat 157 0 1 (.iconst 0) [] := zat_of zP_157 rfl
theorem zi_157_1 : zat 157 1 2 (.istore_n 2) [] := zat_of zP_157 rfl
theorem zi_157_2 : zat 157 2 3 (.aload_n 0) [] := zat_of zP_157 rfl
theorem zi_157_3 : zat 157 3 4 (.getfield 94) [4, 4, 681] := zat_of zP_157 rfl
theorem zi_157_4 : zat 157 4 5 (.istore_n 3) [] := zat_of zP_157 rfl
theorem zi_157_5 : zat 157 5 6 (.aload_n 0) [] := zat_of zP_157 rfl
theorem zi_157_6 : zat 157 6 7 (.aload_n 0) [] := zat_of zP_157 rfl
theorem zi_157_7 : zat 157 7 8 (.getfield 41) [4, 16, 693] := zat_of zP_157 rfl
theorem zi_157_8 : zat 157 8 9 (.invokevirtual 205) [155, 946, 948, 47] := zat_of zP_157 rfl
theorem zi_157_9 : zat 157 9 10 (.iconst 0) [] := zat_of zP_157 rfl
theorem zi_157_10 : zat 157 10 11 (.istore 4) [] := zat_of zP_157 rfl
theorem zi_157_11 : zat 157 11 12 (.iload 4) [] := zat_of zP_157 rfl
theorem zi_157_12 : zat 157 12 13 (.iconst 2) [] := zat_of zP_157 rfl
theorem zi_157_13 : zat 157 13 14 (.aload_n 0) [] := zat_of zP_157 rfl
theorem zi_157_14 : zat 157 14 15 (.getfield 71) [4, 1, 678] := zat_of zP_157 rfl
theorem zi_157_15 : zat 157 15 16 (.imul) [] := zat_of zP_157 rfl
theorem zi_157_16 : zat 157 16 17 (.if_icmp .ge 89) [67] := zat_of zP_157 rfl
theorem zi_157_17 : zat 157 17 18 (.aload_n 0) [] := zat_of zP_157 rfl
theorem zi_157_18 : zat 157 18 19 (.getfield 7) [4, 0, 677] := zat_of zP_157 rfl
theorem zi_157_19 : zat 157 19 20 (.bipush 6) [] := zat_of zP_157 rfl
theorem zi_157_20 : zat 157 20 21 (.iload 4) [] := zat_of zP_157 rfl
theorem zi_157_21 : zat 157 21 22 (.iconst 2) [] := zat_of zP_157 rfl
theorem zi_157_22 : zat 157 22 23 (.idiv) [] := zat_of zP_157 rfl
theorem zi_157_23 : zat 157 23 24 (.imul) [] := zat_of zP_157 rfl
theorem zi_157_24 : zat 157 24 25 (.iconst 5) [] := zat_of zP_157 rfl
theorem zi_157_25 : zat 157 25 26 (.iadd) [] := zat_of zP_157 rfl
theorem zi_157_26 : zat 157 26 27 (.iaload) [] := zat_of zP_157 rfl
theorem zi_157_27 : zat 157 27 28 (.iload_n 1) [] := zat_of zP_157 rfl
theorem zi_157_28 : zat 157 28 29 (.if_icmp .ne 65) [65] := zat_of zP_157 rfl
theorem zi_157_29 : zat 157 29 30 (.aload_n 0) [] := zat_of zP_157 rfl
theorem zi_157_30 : zat 157 30 31 (.iload 4) [] := zat_of zP_157 rfl
theorem zi_157_31 : zat 157 31 32 (.iconst 2) [] := zat_of zP_157 rfl
theorem zi_157_32 : zat 157 32 33 (.idiv) [] := zat_of zP_157 rfl
theorem zi_157_33 : zat 157 33 34 (.invokevirtual 99) [118, 792, 794, 27] := zat_of zP_157 rfl
theorem zi_157_34 : zat 157 34 35 (.ifCond .ge 54) [65] := zat_of zP_157 rfl
theorem zi_157_35 : zat 157 35 36 (.aload_n 0) [] := zat_of zP_157 rfl
theorem zi_157_36 : zat 157 36 37 (.iload 4) [] := zat_of zP_157 rfl
theorem zi_157_37 : zat 157 37 38 (.iconst 2) [] := zat_of zP_157 rfl
theorem zi_157_38 : zat 157 38 39 (.idiv) [] := zat_of zP_157 rfl
theorem zi_157_39 : zat 157 39 40 (.iload 4) [] := zat_of zP_157 rfl
theorem zi_157_40 : zat 157 40 41 (.iconst 2) [] := zat_of zP_157 rfl
theorem zi_157_41 : zat 157 41 42 (.irem) [] := zat_of zP_157 rfl
theorem zi_157_42 : zat 157 42 43 (.invokevirtual 165) [138, 841, 843, 33] := zat_of zP_157 rfl
theorem zi_157_43 : zat 157 43 44 (.ifCond .eq 39) [65] := zat_of zP_157 rfl
theorem zi_157_44 : zat 157 44 45 (.aload_n 0) [] := zat_of zP_157 rfl
theorem zi_157_45 : zat 157 45 46 (.iload 4) [] := zat_of zP_157 rfl
theorem zi_157_46 : zat 157 46 47 (.iconst 2) [] := zat_of zP_157 rfl
theorem zi_157_47 : zat 157 47 48 (.idiv) [] := zat_of zP_157 rfl
theorem zi_157_48 : zat 157 48 49 (.iload 4) [] := zat_of zP_157 rfl
theorem zi_157_49 : zat 157 49 50 (.iconst 2) [] := zat_of zP_157 rfl
theorem zi_157_50 : zat 157 50 51 (.irem) [] := zat_of zP_157 rfl
theorem zi_157_51 : zat 157 51 52 (.invokevirtual 177) [140, 856, 858, 35] := zat_of zP_157 rfl
theorem zi_157_52 : zat 157 52 53 (.istore 5) [] := zat_of zP_157 rfl
theorem zi_157_53 : zat 157 53 54 (.iload 5) [] := zat_of zP_157 rfl
theorem zi_157_54 : zat 157 54 55 (.iload_n 2) [] := zat_of zP_157 rfl
theorem zi_157_55 : zat 157 55 56 (.if_icmp .le 8) [58] := zat_of zP_157 rfl
theorem zi_157_56 : zat 157 56 57 (.iload 5) [] := zat_of zP_157 rfl
theorem zi_157_57 : zat 157 57 58 (.goto 4) [59] := zat_of zP_157 rfl
theorem zi_157_58 : zat 157 58 59 (.iload_n 2) [] := zat_of zP_157 rfl
theorem zi_157_59 : zat 157 59 60 (.istore_n 2) [] := zat_of zP_157 rfl
theorem zi_157_60 : zat 157 60 61 (.aload_n 0) [] := zat_of zP_157 rfl
theorem zi_157_61 : zat 157 61 62 (.aload_n 0) [] := zat_of zP_157 rfl
theorem zi_157_62 : zat 157 62 63 (.getfield 41) [4, 16, 693] := zat_of zP_157 rfl
theorem zi_157_63 : zat 157 63 64 (.iload_n 3) [] := zat_of zP_157 rfl
theorem zi_157_64 : zat 157 64 65 (.invokevirtual 209) [156, 954, 956, 49] := zat_of zP_157 rfl
theorem zi_157_65 : zat 157 65 66 (.iinc 4 1) [] := zat_of zP_157 rfl
theorem zi_157_66 : zat 157 66 67 (.goto (-94)) [11] := zat_of zP_157 rfl
theorem zi_157_67 : zat 157 67 68 (.iload_n 2) [] := zat_of zP_157 rfl
theorem zi_157_68 : zat 157 68 69 (.ireturn) [] := zat_of zP_157 rfl
theorem zP_158 : zP 158 = zk_158 := rfl
theorem zi_158_0 : zat 158 0 1 (.iload_n 1) [] := zat_of zP_158 rfl
theorem zi_158_1 : zat 158 1 2 (.i2l) [] := zat_of zP_158 rfl
theorem zi_158_2 : zat 158 2 3 (.lconst 0) [] := zat_of zP_158 rfl
theorem zi_158_3 : zat 158 3 4 (.lconst 1) [] := zat_of zP_158 rfl
theorem zi_158_4 : zat 158 4 5 (.invokestatic 74) [112, 767, 768] := zat_of zP_158 rfl
theorem zi_158_5 : zat 158 5 6 (.ifCond .eq 15) [12] := zat_of zP_158 rfl
theorem zi_158_6 : zat 158 6 7 (.iload_n 2) [] := zat_of zP_158 rfl
theorem zi_158_7 : zat 158 7 8 (.i2l) [] := zat_of zP_158 rfl
theorem zi_158_8 : zat 158 8 9 (.lconst 0) [] := zat_of zP_158 rfl
theorem zi_158_9 : zat 158 9 10 (.ldc2_w 213) [2, 0, 945] := zat_of zP_158 rfl
theorem zi_158_10 : zat 158 10 11 (.invokestatic 74) [112, 767, 768] := zat_of zP_158 rfl
theorem zi_158_11 : zat 158 11 12 (.ifCond .ne 5) [14] := zat_of zP_158 rfl
theorem zi_158_12 : zat 158 12 13 (.iconst (-1)) [] := zat_of zP_158 rfl
theorem zi_158_13 : zat 158 13 14 (.ireturn) [] := zat_of zP_158 rfl
theorem zi_158_14 : zat 158 14 15 (.aload_n 0) [] := zat_of zP_158 rfl
theorem zi_158_15 : zat 158 15 16 (.getfield 137) [4, 6, 683] := zat_of zP_158 rfl
theorem zi_158_16 : zat 158 16 17 (.ifCond .eq 6) [19] := zat_of zP_158 rfl
theorem zi_158_17 : zat 158 17 18 (.bipush (-2)) [] := zat_of zP_158 rfl
theorem zi_158_18 : zat 158 18 19 (.ireturn) [] := zat_of zP_158 rfl
theorem zi_158_19 : zat 158 19 20 (.bipush (-4)) [] := zat_of zP_158 rfl
theorem zi_158_20 : zat 158 20 21 (.istore_n 3) [] := zat_of zP_158 rfl
theorem zi_158_21 : zat 158 21 22 (.sipush (-999)) [] := zat_of zP_158 rfl
theorem zi_158_22 : zat 158 22 23 (.istore 4) [] := zat_of zP_158 rfl
theorem zi_158_23 : zat 158 23 24 (.aload_n 0) [] := zat_of zP_158 rfl
theorem zi_158_24 : zat 158 24 25 (.getfield 94) [4, 4, 681] := zat_of zP_158 rfl
theorem zi_158_25 : zat 158 25 26 (.istore 5) [] := zat_of zP_158 rfl
theorem zi_158_26 : zat 158 26 27 (.aload_n 0) [] := zat_of zP_158 rfl
theorem zi_158_27 : zat 158 27 28 (.aload_n 0) [] := zat_of zP_158 rfl
theorem zi_158_28 : zat 158 28 29 (.getfield 38) [4, 15, 692] := zat_of zP_158 rfl
theorem zi_158_29 : zat 158 29 30 (.invokevirtual 205) [155, 946, 948, 47] := zat_of zP_158 rfl
theorem zi_158_30 : zat 158 30 31 (.iconst 0) [] := zat_of zP_158 rfl
theorem zi_158_31 : zat 158 31 32 (.istore 6) [] := zat_of zP_158 rfl
theorem zi_158_32 : zat 158 32 33 (.iload 6) [] := zat_of zP_158 rfl
theorem zi_158_33 : zat 158 33 34 (.iconst 2) [] := zat_of zP_158 rfl
theorem zi_158_34 : zat 158 34 35 (.aload_n 0) [] := zat_of zP_158 rfl
theorem zi_158_35 : zat 158 35 36 (.getfield 71) [4, 1, 678] := zat_of zP_158 rfl
theorem zi_158_36 : zat 158 36 37 (.imul) [] := zat_of zP_158 rfl
theorem zi_158_37 : zat 158 37 38 (.if_icmp .ge 104) [95] := zat_of zP_158 rfl
theorem zi_158_38 : zat 158 38 39 (.aload_n 0) [] := zat_of zP_158 rfl
theorem zi_158_39 : zat 158 39 40 (.getfield 7) [4, 0, 677] := zat_of zP_158 rfl
theorem zi_158_40 : zat 158 40 41 (.bipush 6) [] := zat_of zP_158 rfl
theorem zi_158_41 : zat 158 41 42 (.iload 6) [] := zat_of zP_158 rfl
theorem zi_158_42 : zat 158 42 43 (.iconst 2) [] := zat_of zP_158 rfl
theorem zi_158_43 : zat 158 43 44 (.idiv) [] := zat_of zP_158 rfl
theorem zi_158_44 : zat 158 44 45 (.imul) [] := zat_of zP_158 rfl
theorem zi_158_45 : zat 158 45 46 (.iconst 5) [] := zat_of zP_158 rfl
theorem zi_158_46 : zat 158 46 47 (.iadd) [] := zat_of zP_158 rfl
theorem zi_158_47 : zat 158 47 48 (.iaload) [] := zat_of zP_158 rfl
theorem zi_158_48 : zat 158 48 49 (.iload_n 1) [] := zat_of zP_158 rfl
theorem zi_158_49 : zat 158 49 50 (.if_icmp .ne 80) [93] := zat_of zP_158 rfl
theorem zi_158_50 : zat 158 50 51 (.aload_n 0) [] := zat_of zP_158 rfl
theorem zi_158_51 : zat 158 51 52 (.iload 6) [] := zat_of zP_158 rfl
theorem zi_158_52 : zat 158 52 53 (.iconst 2) [] := zat_of zP_158 rfl
theorem zi_158_53 : zat 158 53 54 (.idiv) [] := zat_of zP_158 rfl
theorem zi_158_54 : zat 158 54 55 (.iload 6) [] := zat_of zP_158 rfl
theorem zi_158_55 : zat 158 55 56 (.iconst 2) [] := zat_of zP_158 rfl
theorem zi_158_56 : zat 158 56 57 (.irem) [] := zat_of zP_158 rfl
theorem zi_158_57 : zat 158 57 58 (.invokevirtual 165) [138, 841, 843, 33] := zat_of zP_158 rfl
theorem zi_158_58 : zat 158 58 59 (.ifCond .eq 65) [93] := zat_of zP_158 rfl
theorem zi_158_59 : zat 158 59 60 (.aload_n 0) [] := zat_of zP_158 rfl
theorem zi_158_60 : zat 158 60 61 (.iload 6) [] := zat_of zP_158 rfl
theorem zi_158_61 : zat 158 61 62 (.iconst 2) [] := zat_of zP_158 rfl
theorem zi_158_62 : zat 158 62 63 (.idiv) [] := zat_of zP_158 rfl
theorem zi_158_63 : zat 158 63 64 (.iload 6) [] := zat_of zP_158 rfl
theorem zi_158_64 : zat 158 64 65 (.iconst 2) [] := zat_of zP_158 rfl
theorem zi_158_65 : zat 158 65 66 (.irem) [] := zat_of zP_158 rfl
theorem zi_158_66 : zat 158 66 67 (.invokevirtual 177) [140, 856, 858, 35] := zat_of zP_158 rfl
theorem zi_158_67 : zat 158 67 68 (.aload_n 0) [] := zat_of zP_158 rfl
theorem zi_158_68 : zat 158 68 69 (.iconst 1) [] := zat_of zP_158 rfl
theorem zi_158_69 : zat 158 69 70 (.iload_n 1) [] := zat_of zP_158 rfl
theorem zi_158_70 : zat 158 70 71 (.isub) [] := zat_of zP_158 rfl
theorem zi_158_71 : zat 158 71 72 (.invokevirtual 215) [157, 950, 952, 48] := zat_of zP_158 rfl
theorem zi_158_72 : zat 158 72 73 (.isub) [] := zat_of zP_158 rfl
theorem zi_158_73 : zat 158 73 74 (.istore 7) [] := zat_of zP_158 rfl
theorem zi_158_74 : zat 158 74 75 (.iload 7) [] := zat_of zP_158 rfl
theorem zi_158_75 : zat 158 75 76 (.iload 4) [] := zat_of zP_158 rfl
theorem zi_158_76 : zat 158 76 77 (.if_icmp .le 8) [79] := zat_of zP_158 rfl
theorem zi_158_77 : zat 158 77 78 (.iload 6) [] := zat_of zP_158 rfl
theorem zi_158_78 : zat 158 78 79 (.goto 4) [80] := zat_of zP_158 rfl
theorem zi_158_79 : zat 158 79 80 (.iload_n 3) [] := zat_of zP_158 rfl
theorem zi_158_80 : zat 158 80 81 (.istore_n 3) [] := zat_of zP_158 rfl
theorem zi_158_81 : zat 158 81 82 (.iload 7) [] := zat_of zP_158 rfl
theorem zi_158_82 : zat 158 82 83 (.iload 4) [] := zat_of zP_158 rfl
theorem zi_158_83 : zat 158 83 84 (.if_icmp .le 8) [86] := zat_of zP_158 rfl
theorem zi_158_84 : zat 158 84 85 (.iload 7) [] := zat_of zP_158 rfl
theorem zi_158_85 : zat 158 85 86 (.goto 5) [87] := zat_of zP_158 rfl
theorem zi_158_86 : zat 158 86 87 (.iload 4) [] := zat_of zP_158 rfl
theorem zi_158_87 : zat 158 87 88 (.istore 4) [] := zat_of zP_158 rfl
theorem zi_158_88 : zat 158 88 89 (.aload_n 0) [] := zat_of zP_158 rfl
theorem zi_158_89 : zat 158 89 90 (.aload_n 0) [] := zat_of zP_158 rfl
theorem zi_158_90 : zat 158 90 91 (.getfield 38) [4, 15, 692] := zat_of zP_158 rfl
theorem zi_158_91 : zat 158 91 92 (.iload 5) [] := zat_of zP_158 rfl
theorem zi_158_92 : zat 158 92 93 (.invokevirtual 209) [156, 954, 956, 49] := zat_of zP_158 rfl
theorem zi_158_93 : zat 158 93 94 (.iinc 6 1) [] := zat_of zP_158 rfl
theorem zi_158_94 : zat 158 94 95 (.goto (-109)) [32] := zat_of zP_158 rfl
theorem zi_158_95 : zat 158 95 96 (.iload_n 3) [] := zat_of zP_158 rfl
theorem zi_158_96 : zat 158 96 97 (.ifCond .ge 8) [99] := zat_of zP_158 rfl
theorem zi_158_97 : zat 158 97 98 (.bipush (-4)) [] := zat_of zP_158 rfl
theorem zi_158_98 : zat 158 98 99 (.goto 29) [115] := zat_of zP_158 rfl
theorem zi_158_99 : zat 158 99 100 (.iload_n 2) [] := zat_of zP_158 rfl
theorem zi_158_100 : zat 158 100 101 (.ifCond .ne 9) [105] := zat_of zP_158 rfl
theorem zi_158_101 : zat 158 101 102 (.iload_n 3) [] := zat_of zP_158 rfl
theorem zi_158_102 : zat 158 102 103 (.iconst 2) [] := zat_of zP_158 rfl
theorem zi_158_103 : zat 158 103 104 (.idiv) [] := zat_of zP_158 rfl
theorem zi_158_104 : zat 158 104 105 (.goto 19) [115] := zat_of zP_158 rfl
theorem zi_158_105 : zat 158 105 106 (.iload_n 2) [] := zat_of zP_158 rfl
theorem zi_158_106 : zat 158 106 107 (.iconst 1) [] := zat_of zP_158 rfl
theorem zi_158_107 : zat 158 107 108 (.if_icmp .ne 9) [112] := zat_of zP_158 rfl
theorem zi_158_108 : zat 158 108 109 (.iload_n 3) [] := zat_of zP_158 rfl
theorem zi_158_109 : zat 158 109 110 (.iconst 2) [] := zat_of zP_158 rfl
theorem zi_158_110 : zat 158 110 111 (.irem) [] := zat_of zP_158 rfl
theorem zi_158_111 : zat 158 111 112 (.goto 8) [115] := zat_of zP_158 rfl
theorem zi_158_112 : zat 158 112 113 (.iload 4) [] := zat_of zP_158 rfl
theorem zi_158_113 : zat 158 113 114 (.bipush 100) [] := zat_of zP_158 rfl
theorem zi_158_114 : zat 158 114 115 (.iadd) [] := zat_of zP_158 rfl
theorem zi_158_115 : zat 158 115 116 (.ireturn) [] := zat_of zP_158 rfl
theorem zP_159 : zP 159 = zk_159 := rfl
theorem zi_159_0 : zat 159 0 1 (.iconst 0) [] := zat_of zP_159 rfl
theorem zi_159_1 : zat 159 1 2 (.istore_n 3) [] := zat_of zP_159 rfl
theorem zi_159_2 : zat 159 2 3 (.iconst 0) [] := zat_of zP_159 rfl
theorem zi_159_3 : zat 159 3 4 (.istore 4) [] := zat_of zP_159 rfl
theorem zi_159_4 : zat 159 4 5 (.iload 4) [] := zat_of zP_159 rfl
theorem zi_159_5 : zat 159 5 6 (.iconst 2) [] := zat_of zP_159 rfl
theorem zi_159_6 : zat 159 6 7 (.aload_n 0) [] := zat_of zP_159 rfl
theorem zi_159_7 : zat 159 7 8 (.getfield 71) [4, 1, 678] := zat_of zP_159 rfl
theorem zi_159_8 : zat 159 8 9 (.imul) [] := zat_of zP_159 rfl
theorem zi_159_9 : zat 159 9 10 (.if_icmp .ge 53) [39] := zat_of zP_159 rfl
theorem zi_159_10 : zat 159 10 11 (.aload_n 0) [] := zat_of zP_159 rfl
theorem zi_159_11 : zat 159 11 12 (.getfield 7) [4, 0, 677] := zat_of zP_159 rfl
theorem zi_159_12 : zat 159 12 13 (.bipush 6) [] := zat_of zP_159 rfl
theorem zi_159_13 : zat 159 13 14 (.iload 4) [] := zat_of zP_159 rfl
theorem zi_159_14 : zat 159 14 15 (.iconst 2) [] := zat_of zP_159 rfl
theorem zi_159_15 : zat 159 15 16 (.idiv) [] := zat_of zP_159 rfl
theorem zi_159_16 : zat 159 16 17 (.imul) [] := zat_of zP_159 rfl
theorem zi_159_17 : zat 159 17 18 (.iconst 5) [] := zat_of zP_159 rfl
theorem zi_159_18 : zat 159 18 19 (.iadd) [] := zat_of zP_159 rfl
theorem zi_159_19 : zat 159 19 20 (.iaload) [] := zat_of zP_159 rfl
theorem zi_159_20 : zat 159 20 21 (.iload_n 1) [] := zat_of zP_159 rfl
theorem zi_159_21 : zat 159 21 22 (.if_icmp .ne 29) [37] := zat_of zP_159 rfl
theorem zi_159_22 : zat 159 22 23 (.aload_n 0) [] := zat_of zP_159 rfl
theorem zi_159_23 : zat 159 23 24 (.iload 4) [] := zat_of zP_159 rfl
theorem zi_159_24 : zat 159 24 25 (.iconst 2) [] := zat_of zP_159 rfl
theorem zi_159_25 : zat 159 25 26 (.idiv) [] := zat_of zP_159 rfl
theorem zi_159_26 : zat 159 26 27 (.iload 4) [] := zat_of zP_159 rfl
theorem zi_159_27 : zat 159 27 28 (.iconst 2) [] := zat_of zP_159 rfl
theorem zi_159_28 : zat 159 28 29 (.irem) [] := zat_of zP_159 rfl
theorem zi_159_29 : zat 159 29 30 (.invokevirtual 165) [138, 841, 843, 33] := zat_of zP_159 rfl
theorem zi_159_30 : zat 159 30 31 (.ifCond .eq 14) [37] := zat_of zP_159 rfl
theorem zi_159_31 : zat 159 31 32 (.iload_n 3) [] := zat_of zP_159 rfl
theorem zi_159_32 : zat 159 32 33 (.iload_n 2) [] := zat_of zP_159 rfl
theorem zi_159_33 : zat 159 33 34 (.if_icmp .ne 6) [36] := zat_of zP_159 rfl
theorem zi_159_34 : zat 159 34 35 (.iload 4) [] := zat_of zP_159 rfl
theorem zi_159_35 : zat 159 35 36 (.ireturn) [] := zat_of zP_159 rfl
theorem zi_159_36 : zat 159 36 37 (.iinc 3 1) [] := zat_of zP_159 rfl
theorem zi_159_37 : zat 159 37 38 (.iinc 4 1) [] := zat_of zP_159 rfl
theorem zi_159_38 : zat 159 38 39 (.goto (-58)) [4] := zat_of zP_159 rfl
theorem zi_159_39 : zat 159 39 40 (.iload_n 2) [] := zat_of zP_159 rfl
theorem zi_159_40 : zat 159 40 41 (.ifCond .ge 7) [43] := zat_of zP_159 rfl
theorem zi_159_41 : zat 159 41 42 (.iload_n 3) [] := zat_of zP_159 rfl
theorem zi_159_42 : zat 159 42 43 (.goto 5) [44] := zat_of zP_159 rfl
theorem zi_159_43 : zat 159 43 44 (.bipush (-4)) [] := zat_of zP_159 rfl
theorem zi_159_44 : zat 159 44 45 (.ireturn) [] := zat_of zP_159 rfl
theorem zP_160 : zP 160 = zk_160 := rfl
theorem zi_160_0 : zat 160 0 1 (.iload_n 1) [] := zat_of zP_160 rfl
theorem zi_160_1 : zat 160 1 2 (.i2l) [] := zat_of zP_160 rfl
theorem zi_160_2 : zat 160 2 3 (.lconst 1) [] := zat_of zP_160 rfl
theorem zi_160_3 : zat 160 3 4 (.ldc2_w 218) [24, 0, 962] := zat_of zP_160 rfl
theorem zi_160_4 : zat 160 4 5 (.invokestatic 74) [112, 767, 768] := zat_of zP_160 rfl
theorem zi_160_5 : zat 160 5 6 (.ifCond .ne 5) [8] := zat_of zP_160 rfl
theorem zi_160_6 : zat 160 6 7 (.iconst (-1)) [] := zat_of zP_160 rfl
theorem zi_160_7 : zat 160 7 8 (.ireturn) [] := zat_of zP_160 rfl
theorem zi_160_8 : zat 160 8 9 (.aload_n 0) [] := zat_of zP_160 rfl
theorem zi_160_9 : zat 160 9 10 (.getfield 137) [4, 6, 683] := zat_of zP_160 rfl
theorem zi_160_10 : zat 160 10 11 (.ifCond .eq 6) [13] := zat_of zP_160 rfl
theorem zi_160_11 : zat 160 11 12 (.bipush (-2)) [] := zat_of zP_160 rfl
theorem zi_160_12 : zat 160 12 13 (.ireturn) [] := zat_of zP_160 rfl
theorem zi_160_13 : zat 160 13 14 (.iconst 0) [] := zat_of zP_160 rfl
theorem zi_160_14 : zat 160 14 15 (.istore_n 2) [] := zat_of zP_160 rfl
theorem zi_160_15 : zat 160 15 16 (.iconst 0) [] := zat_of zP_160 rfl
theorem zi_160_16 : zat 160 16 17 (.istore_n 3) [] := zat_of zP_160 rfl
theorem zi_160_17 : zat 160 17 18 (.iload_n 3) [] := zat_of zP_160 rfl
theorem zi_160_18 : zat 160 18 19 (.iload_n 1) [] := zat_of zP_160 rfl
theorem zi_160_19 : zat 160 19 20 (.if_icmp .ge 81) [65] := zat_of zP_160 rfl
theorem zi_160_20 : zat 160 20 21 (.aload_n 0) [] := zat_of zP_160 rfl
theorem zi_160_21 : zat 160 21 22 (.iload_n 3) [] := zat_of zP_160 rfl
theorem zi_160_22 : zat 160 22 23 (.iconst 2) [] := zat_of zP_160 rfl
theorem zi_160_23 : zat 160 23 24 (.irem) [] := zat_of zP_160 rfl
theorem zi_160_24 : zat 160 24 25 (.iconst (-1)) [] := zat_of zP_160 rfl
theorem zi_160_25 : zat 160 25 26 (.invokevirtual 220) [159, 963, 965, 50] := zat_of zP_160 rfl
theorem zi_160_26 : zat 160 26 27 (.istore 4) [] := zat_of zP_160 rfl
theorem zi_160_27 : zat 160 27 28 (.iload 4) [] := zat_of zP_160 rfl
theorem zi_160_28 : zat 160 28 29 (.ifCond .le 60) [63] := zat_of zP_160 rfl
theorem zi_160_29 : zat 160 29 30 (.aload_n 0) [] := zat_of zP_160 rfl
theorem zi_160_30 : zat 160 30 31 (.aload_n 0) [] := zat_of zP_160 rfl
theorem zi_160_31 : zat 160 31 32 (.getfield 22) [4, 7, 684] := zat_of zP_160 rfl
theorem zi_160_32 : zat 160 32 33 (.i2l) [] := zat_of zP_160 rfl
theorem zi_160_33 : zat 160 33 34 (.ldc2_w 223) [1103515245, 0, 967] := zat_of zP_160 rfl
theorem zi_160_34 : zat 160 34 35 (.lmul) [] := zat_of zP_160 rfl
theorem zi_160_35 : zat 160 35 36 (.ldc2_w 225) [12345, 0, 968] := zat_of zP_160 rfl
theorem zi_160_36 : zat 160 36 37 (.ladd) [] := zat_of zP_160 rfl
theorem zi_160_37 : zat 160 37 38 (.ldc2_w 227) [2147483647, 0, 969] := zat_of zP_160 rfl
theorem zi_160_38 : zat 160 38 39 (.land) [] := zat_of zP_160 rfl
theorem zi_160_39 : zat 160 39 40 (.l2i) [] := zat_of zP_160 rfl
theorem zi_160_40 : zat 160 40 41 (.putfield 22) [4, 7, 684] := zat_of zP_160 rfl
theorem zi_160_41 : zat 160 41 42 (.aload_n 0) [] := zat_of zP_160 rfl
theorem zi_160_42 : zat 160 42 43 (.iload_n 3) [] := zat_of zP_160 rfl
theorem zi_160_43 : zat 160 43 44 (.iconst 2) [] := zat_of zP_160 rfl
theorem zi_160_44 : zat 160 44 45 (.irem) [] := zat_of zP_160 rfl
theorem zi_160_45 : zat 160 45 46 (.aload_n 0) [] := zat_of zP_160 rfl
theorem zi_160_46 : zat 160 46 47 (.getfield 22) [4, 7, 684] := zat_of zP_160 rfl
theorem zi_160_47 : zat 160 47 48 (.ldc 229) [65536, 0, 970] := zat_of zP_160 rfl
theorem zi_160_48 : zat 160 48 49 (.idiv) [] := zat_of zP_160 rfl
theorem zi_160_49 : zat 160 49 50 (.iload 4) [] := zat_of zP_160 rfl
theorem zi_160_50 : zat 160 50 51 (.irem) [] := zat_of zP_160 rfl
theorem zi_160_51 : zat 160 51 52 (.invokevirtual 220) [159, 963, 965, 50] := zat_of zP_160 rfl
theorem zi_160_52 : zat 160 52 53 (.istore 5) [] := zat_of zP_160 rfl
theorem zi_160_53 : zat 160 53 54 (.aload_n 0) [] := zat_of zP_160 rfl
theorem zi_160_54 : zat 160 54 55 (.iload 5) [] := zat_of zP_160 rfl
theorem zi_160_55 : zat 160 55 56 (.iconst 2) [] := zat_of zP_160 rfl
theorem zi_160_56 : zat 160 56 57 (.idiv) [] := zat_of zP_160 rfl
theorem zi_160_57 : zat 160 57 58 (.iload 5) [] := zat_of zP_160 rfl
theorem zi_160_58 : zat 160 58 59 (.iconst 2) [] := zat_of zP_160 rfl
theorem zi_160_59 : zat 160 59 60 (.irem) [] := zat_of zP_160 rfl
theorem zi_160_60 : zat 160 60 61 (.invokevirtual 180) [141, 852, 854, 34] := zat_of zP_160 rfl
theorem zi_160_61 : zat 160 61 62 (.pop) [] := zat_of zP_160 rfl
theorem zi_160_62 : zat 160 62 63 (.iinc 2 1) [] := zat_of zP_160 rfl
theorem zi_160_63 : zat 160 63 64 (.iinc 3 1) [] := zat_of zP_160 rfl
theorem zi_160_64 : zat 160 64 65 (.goto (-80)) [17] := zat_of zP_160 rfl
theorem zi_160_65 : zat 160 65 66 (.iload_n 2) [] := zat_of zP_160 rfl
theorem zi_160_66 : zat 160 66 67 (.ireturn) [] := zat_of zP_160 rfl
theorem zP_161 : zP 161 = zk_161 := rfl
theorem zi_161_0 : zat 161 0 1 (.iload_n 1) [] := zat_of zP_161 rfl
theorem zi_161_1 : zat 161 1 2 (.ifCond .ge 5) [4] := zat_of zP_161 rfl
theorem zi_161_2 : zat 161 2 3 (.iconst (-1)) [] := zat_of zP_161 rfl
theorem zi_161_3 : zat 161 3 4 (.ireturn) [] := zat_of zP_161 rfl
theorem zi_161_4 : zat 161 4 5 (.aload_n 0) [] := zat_of zP_161 rfl
theorem zi_161_5 : zat 161 5 6 (.getfield 22) [4, 7, 684] := zat_of zP_161 rfl
theorem zi_161_6 : zat 161 6 7 (.istore_n 2) [] := zat_of zP_161 rfl
theorem zi_161_7 : zat 161 7 8 (.aload_n 0) [] := zat_of zP_161 rfl
theorem zi_161_8 : zat 161 8 9 (.iload_n 1) [] := zat_of zP_161 rfl
theorem zi_161_9 : zat 161 9 10 (.putfield 22) [4, 7, 684] := zat_of zP_161 rfl
theorem zi_161_10 : zat 161 10 11 (.iload_n 2) [] := zat_of zP_161 rfl
theorem zi_161_11 : zat 161 11 12 (.ireturn) [] := zat_of zP_161 rfl
theorem zP_162 : zP 162 = zk_162 := rfl
theorem zi_162_0 : zat 162 0 1 (.aload_n 0) [] := zat_of zP_162 rfl
theorem zi_162_1 : zat 162 1 2 (.aload_n 0) [] := zat_of zP_162 rfl
theorem zi_162_2 : zat 162 2 3 (.getfield 44) [4, 18, 695] := zat_of zP_162 rfl
theorem zi_162_3 : zat 162 3 4 (.invokevirtual 205) [155, 946, 948, 47] := zat_of zP_162 rfl
theorem zi_162_4 : zat 162 4 5 (.iconst 0) [] := zat_of zP_162 rfl
theorem zi_162_5 : zat 162 5 6 (.istore_n 1) [] := zat_of zP_162 rfl
theorem zi_162_6 : zat 162 6 7 (.iload_n 1) [] := zat_of zP_162 rfl
theorem zi_162_7 : zat 162 7 8 (.bipush 12) [] := zat_of zP_162 rfl
theorem zi_162_8 : zat 162 8 9 (.if_icmp .ge 36) [29] := zat_of zP_162 rfl
theorem zi_162_9 : zat 162 9 10 (.aload_n 0) [] := zat_of zP_162 rfl
theorem zi_162_10 : zat 162 10 11 (.getfield 47) [4, 19, 696] := zat_of zP_162 rfl
theorem zi_162_11 : zat 162 11 12 (.iload_n 1) [] := zat_of zP_162 rfl
theorem zi_162_12 : zat 162 12 13 (.aload_n 0) [] := zat_of zP_162 rfl
theorem zi_162_13 : zat 162 13 14 (.getfield 13) [4, 2, 679] := zat_of zP_162 rfl
theorem zi_162_14 : zat 162 14 15 (.iload_n 1) [] := zat_of zP_162 rfl
theorem zi_162_15 : zat 162 15 16 (.iaload) [] := zat_of zP_162 rfl
theorem zi_162_16 : zat 162 16 17 (.iastore) [] := zat_of zP_162 rfl
theorem zi_162_17 : zat 162 17 18 (.aload_n 0) [] := zat_of zP_162 rfl
theorem zi_162_18 : zat 162 18 19 (.getfield 47) [4, 19, 696] := zat_of zP_162 rfl
theorem zi_162_19 : zat 162 19 20 (.bipush 12) [] := zat_of zP_162 rfl
theorem zi_162_20 : zat 162 20 21 (.iload_n 1) [] := zat_of zP_162 rfl
theorem zi_162_21 : zat 162 21 22 (.iadd) [] := zat_of zP_162 rfl
theorem zi_162_22 : zat 162 22 23 (.aload_n 0) [] := zat_of zP_162 rfl
theorem zi_162_23 : zat 162 23 24 (.getfield 16) [4, 3, 680] := zat_of zP_162 rfl
theorem zi_162_24 : zat 162 24 25 (.iload_n 1) [] := zat_of zP_162 rfl
theorem zi_162_25 : zat 162 25 26 (.iaload) [] := zat_of zP_162 rfl
theorem zi_162_26 : zat 162 26 27 (.iastore) [] := zat_of zP_162 rfl
theorem zi_162_27 : zat 162 27 28 (.iinc 1 1) [] := zat_of zP_162 rfl
theorem zi_162_28 : zat 162 28 29 (.goto (-36)) [6] := zat_of zP_162 rfl
theorem zi_162_29 : zat 162 29 30 (.aload_n 0) [] := zat_of zP_162 rfl
theorem zi_162_30 : zat 162 30 31 (.getfield 50) [4, 20, 697] := zat_of zP_162 rfl
theorem zi_162_31 : zat 162 31 32 (.iconst 0) [] := zat_of zP_162 rfl
theorem zi_162_32 : zat 162 32 33 (.aload_n 0) [] := zat_of zP_162 rfl
theorem zi_162_33 : zat 162 33 34 (.getfield 71) [4, 1, 678] := zat_of zP_162 rfl
theorem zi_162_34 : zat 162 34 35 (.iastore) [] := zat_of zP_162 rfl
theorem zi_162_35 : zat 162 35 36 (.aload_n 0) [] := zat_of zP_162 rfl
theorem zi_162_36 : zat 162 36 37 (.getfield 50) [4, 20, 697] := zat_of zP_162 rfl
theorem zi_162_37 : zat 162 37 38 (.iconst 1) [] := zat_of zP_162 rfl
theorem zi_162_38 : zat 162 38 39 (.aload_n 0) [] := zat_of zP_162 rfl
theorem zi_162_39 : zat 162 39 40 (.getfield 94) [4, 4, 681] := zat_of zP_162 rfl
theorem zi_162_40 : zat 162 40 41 (.iastore) [] := zat_of zP_162 rfl
theorem zi_162_41 : zat 162 41 42 (.aload_n 0) [] := zat_of zP_162 rfl
theorem zi_162_42 : zat 162 42 43 (.getfield 50) [4, 20, 697] := zat_of zP_162 rfl
theorem zi_162_43 : zat 162 43 44 (.iconst 2) [] := zat_of zP_162 rfl
theorem zi_162_44 : zat 162 44 45 (.aload_n 0) [] := zat_of zP_162 rfl
theorem zi_162_45 : zat 162 45 46 (.getfield 19) [4, 5, 682] := zat_of zP_162 rfl
theorem zi_162_46 : zat 162 46 47 (.iconst 0) [] := zat_of zP_162 rfl
theorem zi_162_47 : zat 162 47 48 (.iaload) [] := zat_of zP_162 rfl
theorem zi_162_48 : zat 162 48 49 (.iastore) [] := zat_of zP_162 rfl
theorem zi_162_49 : zat 162 49 50 (.aload_n 0) [] := zat_of zP_162 rfl
theorem zi_162_50 : zat 162 50 51 (.getfield 50) [4, 20, 697] := zat_of zP_162 rfl
theorem zi_162_51 : zat 162 51 52 (.iconst 3) [] := zat_of zP_162 rfl
theorem zi_162_52 : zat 162 52 53 (.aload_n 0) [] := zat_of zP_162 rfl
theorem zi_162_53 : zat 162 53 54 (.getfield 19) [4, 5, 682] := zat_of zP_162 rfl
theorem zi_162_54 : zat 162 54 55 (.iconst 1) [] := zat_of zP_162 rfl
theorem zi_162_55 : zat 162 55 56 (.iaload) [] := zat_of zP_162 rfl
theorem zi_162_56 : zat 162 56 57 (.iastore) [] := zat_of zP_162 rfl
theorem zi_162_57 : zat 162 57 58 (.aload_n 0) [] := zat_of zP_162 rfl
theorem zi_162_58 : zat 162 58 59 (.getfield 50) [4, 20, 697] := zat_of zP_162 rfl
theorem zi_162_59 : zat 162 59 60 (.iconst 4) [] := zat_of zP_162 rfl
theorem zi_162_60 : zat 162 60 61 (.aload_n 0) [] := zat_of zP_162 rfl
theorem zi_162_61 : zat 162 61 62 (.getfield 137) [4, 6, 683] := zat_of zP_162 rfl
theorem zi_162_62 : zat 162 62 63 (.ifCond .eq 7) [65] := zat_of zP_162 rfl
theorem zi_162_63 : zat 162 63 64 (.iconst 1) [] := zat_of zP_162 rfl
theorem zi_162_64 : zat 162 64 65 (.goto 4) [66] := zat_of zP_162 rfl
theorem zi_162_65 : zat 162 65 66 (.iconst 0) [] := zat_of zP_162 rfl
theorem zi_162_66 : zat 162 66 67 (.iastore) [] := zat_of zP_162 rfl
theorem zi_162_67 : zat 162 67 68 (.aload_n 0) [] := zat_of zP_162 rfl
theorem zi_162_68 : zat 162 68 69 (.getfield 50) [4, 20, 697] := zat_of zP_162 rfl
theorem zi_162_69 : zat 162 69 70 (.iconst 5) [] := zat_of zP_162 rfl
theorem zi_162_70 : zat 162 70 71 (.aload_n 0) [] := zat_of zP_162 rfl
theorem zi_162_71 : zat 162 71 72 (.getfield 22) [4, 7, 684] := zat_of zP_162 rfl
theorem zi_162_72 : zat 162 72 73 (.iastore) [] := zat_of zP_162 rfl
theorem zi_162_73 : zat 162 73 74 (.aload_n 0) [] := zat_of zP_162 rfl
theorem zi_162_74 : zat 162 74 75 (.iconst 1) [] := zat_of zP_162 rfl
theorem zi_162_75 : zat 162 75 76 (.putfield 230) [4, 17, 694] := zat_of zP_162 rfl
theorem zi_162_76 : zat 162 76 77 (.iconst 1) [] := zat_of zP_162 rfl
theorem zi_162_77 : zat 162 77 78 (.ireturn) [] := zat_of zP_162 rfl
theorem zP_163 : zP 163 = zk_163 := rfl
theorem zi_163_0 : zat 163 0 1 (.aload_n 0) [] := zat_of zP_163 rfl
theorem zi_163_1 : zat 163 1 2 (.getfield 230) [4, 17, 694] := zat_of zP_163 rfl
theorem zi_163_2 : zat 163 2 3 (.ifCond .ne 6) [5] := zat_of zP_163 rfl
theorem zi_163_3 : zat 163 3 4 (.bipush (-4)) [] := zat_of zP_163 rfl
theorem zi_163_4 : zat 163 4 5 (.ireturn) [] := zat_of zP_163 rfl
theorem zi_163_5 : zat 163 5 6 (.aload_n 0) [] := zat_of zP_163 rfl
theorem zi_163_6 : zat 163 6 7 (.aload_n 0) [] := zat_of zP_163 rfl
theorem zi_163_7 : zat 163 7 8 (.getfield 44) [4, 18, 695] := zat_of zP_163 rfl
theorem zi_163_8 : zat 163 8 9 (.aload_n 0) [] := zat_of zP_163 rfl
theorem zi_163_9 : zat 163 9 10 (.getfield 50) [4, 20, 697] := zat_of zP_163 rfl
theorem zi_163_10 : zat 163 10 11 (.iconst 1) [] := zat_of zP_163 rfl
theorem zi_163_11 : zat 163 11 12 (.iaload) [] := zat_of zP_163 rfl
theorem zi_163_12 : zat 163 12 13 (.invokevirtual 209) [156, 954, 956, 49] := zat_of zP_163 rfl
theorem zi_163_13 : zat 163 13 14 (.iconst 0) [] := zat_of zP_163 rfl
theorem zi_163_14 : zat 163 14 15 (.istore_n 1) [] := zat_of zP_163 rfl
theorem zi_163_15 : zat 163 15 16 (.iload_n 1) [] := zat_of zP_163 rfl
theorem zi_163_16 : zat 163 16 17 (.bipush 12) [] := zat_of zP_163 rfl
theorem zi_163_17 : zat 163 17 18 (.if_icmp .ge 36) [38] := zat_of zP_163 rfl
theorem zi_163_18 : zat 163 18 19 (.aload_n 0) [] := zat_of zP_163 rfl
theorem zi_163_19 : zat 163 19 20 (.getfield 13) [4, 2, 679] := zat_of zP_163 rfl
theorem zi_163_20 : zat 163 20 21 (.iload_n 1) [] := zat_of zP_163 rfl
theorem zi_163_21 : zat 163 21 22 (.aload_n 0) [] := zat_of zP_163 rfl
theorem zi_163_22 : zat 163 22 23 (.getfield 47) [4, 19, 696] := zat_of zP_163 rfl
theorem zi_163_23 : zat 163 23 24 (.iload_n 1) [] := zat_of zP_163 rfl
theorem zi_163_24 : zat 163 24 25 (.iaload) [] := zat_of zP_163 rfl
theorem zi_163_25 : zat 163 25 26 (.iastore) [] := zat_of zP_163 rfl
theorem zi_163_26 : zat 163 26 27 (.aload_n 0) [] := zat_of zP_163 rfl
theorem zi_163_27 : zat 163 27 28 (.getfield 16) [4, 3, 680] := zat_of zP_163 rfl
theorem zi_163_28 : zat 163 28 29 (.iload_n 1) [] := zat_of zP_163 rfl
theorem zi_163_29 : zat 163 29 30 (.aload_n 0) [] := zat_of zP_163 rfl
theorem zi_163_30 : zat 163 30 31 (.getfield 47) [4, 19, 696] := zat_of zP_163 rfl
theorem zi_163_31 : zat 163 31 32 (.bipush 12) [] := zat_of zP_163 rfl
theorem zi_163_32 : zat 163 32 33 (.iload_n 1) [] := zat_of zP_163 rfl
theorem zi_163_33 : zat 163 33 34 (.iadd) [] := zat_of zP_163 rfl
theorem zi_163_34 : zat 163 34 35 (.iaload) [] := zat_of zP_163 rfl
theorem zi_163_35 : zat 163 35 36 (.iastore) [] := zat_of zP_163 rfl
theorem zi_163_36 : zat 163 36 37 (.iinc 1 1) [] := zat_of zP_163 rfl
theorem zi_163_37 : zat 163 37 38 (.goto (-36)) [15] := zat_of zP_163 rfl
theorem zi_163_38 : zat 163 38 39 (.aload_n 0) [] := zat_of zP_163 rfl
theorem zi_163_39 : zat 163 39 40 (.aload_n 0) [] := zat_of zP_163 rfl
theorem zi_163_40 : zat 163 40 41 (.getfield 50) [4, 20, 697] := zat_of zP_163 rfl
theorem zi_163_41 : zat 163 41 42 (.iconst 0) [] := zat_of zP_163 rfl
theorem zi_163_42 : zat 163 42 43 (.iaload) [] := zat_of zP_163 rfl
theorem zi_163_43 : zat 163 43 44 (.putfield 71) [4, 1, 678] := zat_of zP_163 rfl
theorem zi_163_44 : zat 163 44 45 (.aload_n 0) [] := zat_of zP_163 rfl
theorem zi_163_45 : zat 163 45 46 (.getfield 19) [4, 5, 682] := zat_of zP_163 rfl
theorem zi_163_46 : zat 163 46 47 (.iconst 0) [] := zat_of zP_163 rfl
theorem zi_163_47 : zat 163 47 48 (.aload_n 0) [] := zat_of zP_163 rfl
theorem zi_163_48 : zat 163 48 49 (.getfield 50) [4, 20, 697] := zat_of zP_163 rfl
theorem zi_163_49 : zat 163 49 50 (.iconst 2) [] := zat_of zP_163 rfl
theorem zi_163_50 : zat 163 50 51 (.iaload) [] := zat_of zP_163 rfl
theorem zi_163_51 : zat 163 51 52 (.iastore) [] := zat_of zP_163 rfl
theorem zi_163_52 : zat 163 52 53 (.aload_n 0) [] := zat_of zP_163 rfl
theorem zi_163_53 : zat 163 53 54 (.getfield 19) [4, 5, 682] := zat_of zP_163 rfl
theorem zi_163_54 : zat 163 54 55 (.iconst 1) [] := zat_of zP_163 rfl
theorem zi_163_55 : zat 163 55 56 (.aload_n 0) [] := zat_of zP_163 rfl
theorem zi_163_56 : zat 163 56 57 (.getfield 50) [4, 20, 697] := zat_of zP_163 rfl
theorem zi_163_57 : zat 163 57 58 (.iconst 3) [] := zat_of zP_163 rfl
theorem zi_163_58 : zat 163 58 59 (.iaload) [] := zat_of zP_163 rfl
theorem zi_163_59 : zat 163 59 60 (.iastore) [] := zat_of zP_163 rfl
theorem zi_163_60 : zat 163 60 61 (.aload_n 0) [] := zat_of zP_163 rfl
theorem zi_163_61 : zat 163 61 62 (.aload_n 0) [] := zat_of zP_163 rfl
theorem zi_163_62 : zat 163 62 63 (.getfield 50) [4, 20, 697] := zat_of zP_163 rfl
theorem zi_163_63 : zat 163 63 64 (.iconst 4) [] := zat_of zP_163 rfl
theorem zi_163_64 : zat 163 64 65 (.iaload) [] := zat_of zP_163 rfl
theorem zi_163_65 : zat 163 65 66 (.iconst 1) [] := zat_of zP_163 rfl
theorem zi_163_66 : zat 163 66 67 (.if_icmp .ne 7) [69] := zat_of zP_163 rfl
theorem zi_163_67 : zat 163 67 68 (.iconst 1) [] := zat_of zP_163 rfl
theorem zi_163_68 : zat 163 68 69 (.goto 4) [70] := zat_of zP_163 rfl
theorem zi_163_69 : zat 163 69 70 (.iconst 0) [] := zat_of zP_163 rfl
theorem zi_163_70 : zat 163 70 71 (.putfield 137) [4, 6, 683] := zat_of zP_163 rfl
theorem zi_163_71 : zat 163 71 72 (.aload_n 0) [] := zat_of zP_163 rfl
theorem zi_163_72 : zat 163 72 73 (.aload_n 0) [] := zat_of zP_163 rfl
theorem zi_163_73 : zat 163 73 74 (.getfield 50) [4, 20, 697] := zat_of zP_163 rfl
theorem zi_163_74 : zat 163 74 75 (.iconst 5) [] := zat_of zP_163 rfl
theorem zi_163_75 : zat 163 75 76 (.iaload) [] := zat_of zP_163 rfl
theorem zi_163_76 : zat 163 76 77 (.putfield 22) [4, 7, 684] := zat_of zP_163 rfl
theorem zi_163_77 : zat 163 77 78 (.iconst 1) [] := zat_of zP_163 rfl
theorem zi_163_78 : zat 163 78 79 (.ireturn) [] := zat_of zP_163 rfl
theorem zP_164 : zP 164 = zk_164 := rfl
theorem zi_164_0 : zat 164 0 1 (.iload_n 0) [] := zat_of zP_164 rfl
theorem zi_164_1 : zat 164 1 2 (.i2l) [] := zat_of zP_164 rfl
theorem zi_164_2 : zat 164 2 3 (.lconst 0) [] := zat_of zP_164 rfl
theorem zi_164_3 : zat 164 3 4 (.ldc2_w 78) [3, 0, 766] := zat_of zP_164 rfl
theorem zi_164_4 : zat 164 4 5 (.invokestatic 74) [112, 767, 768] := zat_of zP_164 rfl
theorem zi_164_5 : zat 164 5 6 (.ifCond .eq 19) [14] := zat_of zP_164 rfl
theorem zi_164_6 : zat 164 6 7 (.iload_n 1) [] := zat_of zP_164 rfl
theorem zi_164_7 : zat 164 7 8 (.i2l) [] := zat_of zP_164 rfl
theorem zi_164_8 : zat 164 8 9 (.lconst 0) [] := zat_of zP_164 rfl
theorem zi_164_9 : zat 164 9 10 (.ldc2_w 213) [2, 0, 945] := zat_of zP_164 rfl
theorem zi_164_10 : zat 164 10 11 (.invokestatic 74) [112, 767, 768] := zat_of zP_164 rfl
theorem zi_164_11 : zat 164 11 12 (.ifCond .eq 7) [14] := zat_of zP_164 rfl
theorem zi_164_12 : zat 164 12 13 (.iconst 1) [] := zat_of zP_164 rfl
theorem zi_164_13 : zat 164 13 14 (.goto 4) [15] := zat_of zP_164 rfl
theorem zi_164_14 : zat 164 14 15 (.iconst 0) [] := zat_of zP_164 rfl
theorem zi_164_15 : zat 164 15 16 (.ireturn) [] := zat_of zP_164 rfl
theorem zP_165 : zP 165 = zk_165 := rfl
theorem zi_165_0 : zat 165 0 1 (.iload_n 1) [] := zat_of zP_165 rfl
theorem zi_165_1 : zat 165 1 2 (.iload_n 2) [] := zat_of zP_165 rfl
theorem zi_165_2 : zat 165 2 3 (.invokestatic 233) [164, 987, 988] := zat_of zP_165 rfl
theorem zi_165_3 : zat 165 3 4 (.ifCond .eq 9) [7] := zat_of zP_165 rfl
theorem zi_165_4 : zat 165 4 5 (.iload_n 3) [] := zat_of zP_165 rfl
theorem zi_165_5 : zat 165 5 6 (.bipush 24) [] := zat_of zP_165 rfl
theorem zi_165_6 : zat 165 6 7 (.if_icmp .le 5) [9] := zat_of zP_165 rfl
theorem zi_165_7 : zat 165 7 8 (.iconst (-1)) [] := zat_of zP_165 rfl
theorem zi_165_8 : zat 165 8 9 (.ireturn) [] := zat_of zP_165 rfl
theorem zi_165_9 : zat 165 9 10 (.iload_n 3) [] := zat_of zP_165 rfl
theorem zi_165_10 : zat 165 10 11 (.ifCond .ge 6) [13] := zat_of zP_165 rfl
theorem zi_165_11 : zat 165 11 12 (.bipush (-14)) [] := zat_of zP_165 rfl
theorem zi_165_12 : zat 165 12 13 (.ireturn) [] := zat_of zP_165 rfl
theorem zi_165_13 : zat 165 13 14 (.aload_n 0) [] := zat_of zP_165 rfl
theorem zi_165_14 : zat 165 14 15 (.getfield 53) [4, 21, 698] := zat_of zP_165 rfl
theorem zi_165_15 : zat 165 15 16 (.iload_n 1) [] := zat_of zP_165 rfl
theorem zi_165_16 : zat 165 16 17 (.iload_n 2) [] := zat_of zP_165 rfl
theorem zi_165_17 : zat 165 17 18 (.iastore) [] := zat_of zP_165 rfl
theorem zi_165_18 : zat 165 18 19 (.aload_n 0) [] := zat_of zP_165 rfl
theorem zi_165_19 : zat 165 19 20 (.getfield 56) [4, 22, 699] := zat_of zP_165 rfl
theorem zi_165_20 : zat 165 20 21 (.iload_n 1) [] := zat_of zP_165 rfl
theorem zi_165_21 : zat 165 21 22 (.iload_n 3) [] := zat_of zP_165 rfl
theorem zi_165_22 : zat 165 22 23 (.iastore) [] := zat_of zP_165 rfl
theorem zi_165_23 : zat 165 23 24 (.iconst 0) [] := zat_of zP_165 rfl
theorem zi_165_24 : zat 165 24 25 (.istore 4) [] := zat_of zP_165 rfl
theorem zi_165_25 : zat 165 25 26 (.iload 4) [] := zat_of zP_165 rfl
theorem zi_165_26 : zat 165 26 27 (.bipush 24) [] := zat_of zP_165 rfl
theorem zi_165_27 : zat 165 27 28 (.if_icmp .ge 22) [39] := zat_of zP_165 rfl
theorem zi_165_28 : zat 165 28 29 (.aload_n 0) [] := zat_of zP_165 rfl
theorem zi_165_29 : zat 165 29 30 (.getfield 59) [4, 23, 700] := zat_of zP_165 rfl
theorem zi_165_30 : zat 165 30 31 (.bipush 24) [] := zat_of zP_165 rfl
theorem zi_165_31 : zat 165 31 32 (.iload_n 1) [] := zat_of zP_165 rfl
theorem zi_165_32 : zat 165 32 33 (.imul) [] := zat_of zP_165 rfl
theorem zi_165_33 : zat 165 33 34 (.iload 4) [] := zat_of zP_165 rfl
theorem zi_165_34 : zat 165 34 35 (.iadd) [] := zat_of zP_165 rfl
theorem zi_165_35 : zat 165 35 36 (.iconst 0) [] := zat_of zP_165 rfl
theorem zi_165_36 : zat 165 36 37 (.iastore) [] := zat_of zP_165 rfl
theorem zi_165_37 : zat 165 37 38 (.iinc 4 1) [] := zat_of zP_165 rfl
theorem zi_165_38 : zat 165 38 39 (.goto (-23)) [25] := zat_of zP_165 rfl
theorem zi_165_39 : zat 165 39 40 (.iload_n 3) [] := zat_of zP_165 rfl
theorem zi_165_40 : zat 165 40 41 (.ireturn) [] := zat_of zP_165 rfl
theorem zP_166 : zP 166 = zk_166 := rfl
theorem zi_166_0 : zat 166 0 1 (.iload_n 1) [] := zat_of zP_166 rfl
theorem zi_166_1 : zat 166 1 2 (.i2l) [] := zat_of zP_166 rfl
theorem zi_166_2 : zat 166 2 3 (.lconst 0) [] := zat_of zP_166 rfl
theorem zi_166_3 : zat 166 3 4 (.ldc2_w 78) [3, 0, 766] := zat_of zP_166 rfl
theorem zi_166_4 : zat 166 4 5 (.invokestatic 74) [112, 767, 768] := zat_of zP_166 rfl
theorem zi_166_5 : zat 166 5 6 (.ifCond .ne 5) [8] := zat_of zP_166 rfl
theorem zi_166_6 : zat 166 6 7 (.iconst (-1)) [] := zat_of zP_166 rfl
theorem zi_166_7 : zat 166 7 8 (.ireturn) [] := zat_of zP_166 rfl
theorem zi_166_8 : zat 166 8 9 (.aload_n 0) [] := zat_of zP_166 rfl
theorem zi_166_9 : zat 166 9 10 (.getfield 53) [4, 21, 698] := zat_of zP_166 rfl
theorem zi_166_10 : zat 166 10 11 (.iload_n 1) [] := zat_of zP_166 rfl
theorem zi_166_11 : zat 166 11 12 (.iaload) [] := zat_of zP_166 rfl
theorem zi_166_12 : zat 166 12 13 (.ifCond .ge 6) [15] := zat_of zP_166 rfl
theorem zi_166_13 : zat 166 13 14 (.bipush (-11)) [] := zat_of zP_166 rfl
theorem zi_166_14 : zat 166 14 15 (.ireturn) [] := zat_of zP_166 rfl
theorem zi_166_15 : zat 166 15 16 (.aload_n 0) [] := zat_of zP_166 rfl
theorem zi_166_16 : zat 166 16 17 (.getfield 53) [4, 21, 698] := zat_of zP_166 rfl
theorem zi_166_17 : zat 166 17 18 (.iload_n 1) [] := zat_of zP_166 rfl
theorem zi_166_18 : zat 166 18 19 (.iconst (-1)) [] := zat_of zP_166 rfl
theorem zi_166_19 : zat 166 19 20 (.iastore) [] := zat_of zP_166 rfl
theorem zi_166_20 : zat 166 20 21 (.aload_n 0) [] := zat_of zP_166 rfl
theorem zi_166_21 : zat 166 21 22 (.getfield 56) [4, 22, 699] := zat_of zP_166 rfl
theorem zi_166_22 : zat 166 22 23 (.iload_n 1) [] := zat_of zP_166 rfl
theorem zi_166_23 : zat 166 23 24 (.iaload) [] := zat_of zP_166 rfl
theorem zi_166_24 : zat 166 24 25 (.ireturn) [] := zat_of zP_166 rfl
theorem zP_167 : zP 167 = zk_167 := rfl
theorem zi_167_0 : zat 167 0 1 (.aload_n 0) [] := zat_of zP_167 rfl
theorem zi_167_1 : zat 167 1 2 (.getfield 53) [4, 21, 698] := zat_of zP_167 rfl
theorem zi_167_2 : zat 167 2 3 (.iload_n 1) [] := zat_of zP_167 rfl
theorem zi_167_3 : zat 167 3 4 (.iaload) [] := zat_of zP_167 rfl
theorem zi_167_4 : zat 167 4 5 (.iload_n 2) [] := zat_of zP_167 rfl
theorem zi_167_5 : zat 167 5 6 (.if_icmp .eq 20) [15] := zat_of zP_167 rfl
theorem zi_167_6 : zat 167 6 7 (.aload_n 0) [] := zat_of zP_167 rfl
theorem zi_167_7 : zat 167 7 8 (.getfield 53) [4, 21, 698] := zat_of zP_167 rfl
theorem zi_167_8 : zat 167 8 9 (.iload_n 1) [] := zat_of zP_167 rfl
theorem zi_167_9 : zat 167 9 10 (.iaload) [] := zat_of zP_167 rfl
theorem zi_167_10 : zat 167 10 11 (.ifCond .ge 8) [13] := zat_of zP_167 rfl
theorem zi_167_11 : zat 167 11 12 (.bipush (-11)) [] := zat_of zP_167 rfl
theorem zi_167_12 : zat 167 12 13 (.goto 5) [14] := zat_of zP_167 rfl
theorem zi_167_13 : zat 167 13 14 (.bipush (-12)) [] := zat_of zP_167 rfl
theorem zi_167_14 : zat 167 14 15 (.ireturn) [] := zat_of zP_167 rfl
theorem zi_167_15 : zat 167 15 16 (.iload_n 3) [] := zat_of zP_167 rfl
theorem zi_167_16 : zat 167 16 17 (.i2l) [] := zat_of zP_167 rfl
theorem zi_167_17 : zat 167 17 18 (.lconst 0) [] := zat_of zP_167 rfl
theorem zi_167_18 : zat 167 18 19 (.aload_n 0) [] := zat_of zP_167 rfl
theorem zi_167_19 : zat 167 19 20 (.getfield 56) [4, 22, 699] := zat_of zP_167 rfl
theorem zi_167_20 : zat 167 20 21 (.iload_n 1) [] := zat_of zP_167 rfl
theorem zi_167_21 : zat 167 21 22 (.iaload) [] := zat_of zP_167 rfl
theorem zi_167_22 : zat 167 22 23 (.iload 4) [] := zat_of zP_167 rfl
theorem zi_167_23 : zat 167 23 24 (.isub) [] := zat_of zP_167 rfl
theorem zi_167_24 : zat 167 24 25 (.i2l) [] := zat_of zP_167 rfl
theorem zi_167_25 : zat 167 25 26 (.invokestatic 74) [112, 767, 768] := zat_of zP_167 rfl
theorem zi_167_26 : zat 167 26 27 (.ifCond .eq 7) [29] := zat_of zP_167 rfl
theorem zi_167_27 : zat 167 27 28 (.iconst 0) [] := zat_of zP_167 rfl
theorem zi_167_28 : zat 167 28 29 (.goto 5) [30] := zat_of zP_167 rfl
theorem zi_167_29 : zat 167 29 30 (.bipush (-13)) [] := zat_of zP_167 rfl
theorem zi_167_30 : zat 167 30 31 (.ireturn) [] := zat_of zP_167 rfl
theorem zP_168 : zP 168 = zk_168 := rfl
theorem zi_168_0 : zat 168 0 1 (.iload_n 1) [] := zat_of zP_168 rfl
theorem zi_168_1 : zat 168 1 2 (.iload_n 2) [] := zat_of zP_168 rfl
theorem zi_168_2 : zat 168 2 3 (.invokestatic 233) [164, 987, 988] := zat_of zP_168 rfl
theorem zi_168_3 : zat 168 3 4 (.ifCond .ne 5) [6] := zat_of zP_168 rfl
theorem zi_168_4 : zat 168 4 5 (.iconst (-1)) [] := zat_of zP_168 rfl
theorem zi_168_5 : zat 168 5 6 (.ireturn) [] := zat_of zP_168 rfl
theorem zi_168_6 : zat 168 6 7 (.aload_n 0) [] := zat_of zP_168 rfl
theorem zi_168_7 : zat 168 7 8 (.iload_n 1) [] := zat_of zP_168 rfl
theorem zi_168_8 : zat 168 8 9 (.iload_n 2) [] := zat_of zP_168 rfl
theorem zi_168_9 : zat 168 9 10 (.iload_n 3) [] := zat_of zP_168 rfl
theorem zi_168_10 : zat 168 10 11 (.iconst 1) [] := zat_of zP_168 rfl
theorem zi_168_11 : zat 168 11 12 (.invokevirtual 236) [167, 998, 1000, 51] := zat_of zP_168 rfl
theorem zi_168_12 : zat 168 12 13 (.istore 5) [] := zat_of zP_168 rfl
theorem zi_168_13 : zat 168 13 14 (.iload 5) [] := zat_of zP_168 rfl
theorem zi_168_14 : zat 168 14 15 (.ifCond .ge 6) [17] := zat_of zP_168 rfl
theorem zi_168_15 : zat 168 15 16 (.iload 5) [] := zat_of zP_168 rfl
theorem zi_168_16 : zat 168 16 17 (.ireturn) [] := zat_of zP_168 rfl
theorem zi_168_17 : zat 168 17 18 (.aload_n 0) [] := zat_of zP_168 rfl
theorem zi_168_18 : zat 168 18 19 (.getfield 59) [4, 23, 700] := zat_of zP_168 rfl
theorem zi_168_19 : zat 168 19 20 (.bipush 24) [] := zat_of zP_168 rfl
theorem zi_168_20 : zat 168 20 21 (.iload_n 1) [] := zat_of zP_168 rfl
theorem zi_168_21 : zat 168 21 22 (.imul) [] := zat_of zP_168 rfl
theorem zi_168_22 : zat 168 22 23 (.iload_n 3) [] := zat_of zP_168 rfl
theorem zi_168_23 : zat 168 23 24 (.iadd) [] := zat_of zP_168 rfl
theorem zi_168_24 : zat 168 24 25 (.iload_n 2) [] := zat_of zP_168 rfl
theorem zi_168_25 : zat 168 25 26 (.ifCond .ne 14) [32] := zat_of zP_168 rfl
theorem zi_168_26 : zat 168 26 27 (.iload 4) [] := zat_of zP_168 rfl
theorem zi_168_27 : zat 168 27 28 (.bipush 24) [] := zat_of zP_168 rfl
theorem zi_168_28 : zat 168 28 29 (.ishl) [] := zat_of zP_168 rfl
theorem zi_168_29 : zat 168 29 30 (.bipush 24) [] := zat_of zP_168 rfl
theorem zi_168_30 : zat 168 30 31 (.ishr) [] := zat_of zP_168 rfl
theorem zi_168_31 : zat 168 31 32 (.goto 21) [42] := zat_of zP_168 rfl
theorem zi_168_32 : zat 168 32 33 (.iload_n 2) [] := zat_of zP_168 rfl
theorem zi_168_33 : zat 168 33 34 (.iconst 1) [] := zat_of zP_168 rfl
theorem zi_168_34 : zat 168 34 35 (.if_icmp .ne 14) [41] := zat_of zP_168 rfl
theorem zi_168_35 : zat 168 35 36 (.iload 4) [] := zat_of zP_168 rfl
theorem zi_168_36 : zat 168 36 37 (.bipush 16) [] := zat_of zP_168 rfl
theorem zi_168_37 : zat 168 37 38 (.ishl) [] := zat_of zP_168 rfl
theorem zi_168_38 : zat 168 38 39 (.bipush 16) [] := zat_of zP_168 rfl
theorem zi_168_39 : zat 168 39 40 (.ishr) [] := zat_of zP_168 rfl
theorem zi_168_40 : zat 168 40 41 (.goto 5) [42] := zat_of zP_168 rfl
theorem zi_168_41 : zat 168 41 42 (.iload 4) [] := zat_of zP_168 rfl
theorem zi_168_42 : zat 168 42 43 (.iastore) [] := zat_of zP_168 rfl
theorem zi_168_43 : zat 168 43 44 (.iconst 1) [] := zat_of zP_168 rfl
theorem zi_168_44 : zat 168 44 45 (.ireturn) [] := zat_of zP_168 rfl
theorem zP_169 : zP 169 = zk_169 := rfl
theorem zi_169_0 : zat 169 0 1 (.iload_n 1) [] := zat_of zP_169 rfl
theorem zi_169_1 : zat 169 1 2 (.iload_n 2) [] := zat_of zP_169 rfl
theorem zi_169_2 : zat 169 2 3 (.invokestatic 233) [164, 987, 988] := zat_of zP_169 rfl
theorem zi_169_3 : zat 169 3 4 (.ifCond .eq 16) [10] := zat_of zP_169 rfl
theorem zi_169_4 : zat 169 4 5 (.iload 4) [] := zat_of zP_169 rfl
theorem zi_169_5 : zat 169 5 6 (.i2l) [] := zat_of zP_169 rfl
theorem zi_169_6 : zat 169 6 7 (.lconst 1) [] := zat_of zP_169 rfl
theorem zi_169_7 : zat 169 7 8 (.ldc2_w 183) [12, 0, 895] := zat_of zP_169 rfl
theorem zi_169_8 : zat 169 8 9 (.invokestatic 74) [112, 767, 768] := zat_of zP_169 rfl
theorem zi_169_9 : zat 169 9 10 (.ifCond .ne 5) [12] := zat_of zP_169 rfl
theorem zi_169_10 : zat 169 10 11 (.iconst (-1)) [] := zat_of zP_169 rfl
theorem zi_169_11 : zat 169 11 12 (.ireturn) [] := zat_of zP_169 rfl
theorem zi_169_12 : zat 169 12 13 (.aload_n 0) [] := zat_of zP_169 rfl
theorem zi_169_13 : zat 169 13 14 (.iload_n 1) [] := zat_of zP_169 rfl
theorem zi_169_14 : zat 169 14 15 (.iload_n 2) [] := zat_of zP_169 rfl
theorem zi_169_15 : zat 169 15 16 (.iload_n 3) [] := zat_of zP_169 rfl
theorem zi_169_16 : zat 169 16 17 (.iconst 2) [] := zat_of zP_169 rfl
theorem zi_169_17 : zat 169 17 18 (.iload 4) [] := zat_of zP_169 rfl
theorem zi_169_18 : zat 169 18 19 (.imul) [] := zat_of zP_169 rfl
theorem zi_169_19 : zat 169 19 20 (.invokevirtual 236) [167, 998, 1000, 51] := zat_of zP_169 rfl
theorem zi_169_20 : zat 169 20 21 (.istore 5) [] := zat_of zP_169 rfl
theorem zi_169_21 : zat 169 21 22 (.iload 5) [] := zat_of zP_169 rfl
theorem zi_169_22 : zat 169 22 23 (.ifCond .ge 6) [25] := zat_of zP_169 rfl
theorem zi_169_23 : zat 169 23 24 (.iload 5) [] := zat_of zP_169 rfl
theorem zi_169_24 : zat 169 24 25 (.ireturn) [] := zat_of zP_169 rfl
theorem zi_169_25 : zat 169 25 26 (.bipush 24) [] := zat_of zP_169 rfl
theorem zi_169_26 : zat 169 26 27 (.iload_n 1) [] := zat_of zP_169 rfl
theorem zi_169_27 : zat 169 27 28 (.imul) [] := zat_of zP_169 rfl
theorem zi_169_28 : zat 169 28 29 (.iload_n 3) [] := zat_of zP_169 rfl
theorem zi_169_29 : zat 169 29 30 (.iadd) [] := zat_of zP_169 rfl
theorem zi_169_30 : zat 169 30 31 (.istore 6) [] := zat_of zP_169 rfl
theorem zi_169_31 : zat 169 31 32 (.iconst 0) [] := zat_of zP_169 rfl
theorem zi_169_32 : zat 169 32 33 (.istore 7) [] := zat_of zP_169 rfl
theorem zi_169_33 : zat 169 33 34 (.iload 7) [] := zat_of zP_169 rfl
theorem zi_169_34 : zat 169 34 35 (.iload 4) [] := zat_of zP_169 rfl
theorem zi_169_35 : zat 169 35 36 (.if_icmp .ge 54) [66] := zat_of zP_169 rfl
theorem zi_169_36 : zat 169 36 37 (.aload_n 0) [] := zat_of zP_169 rfl
theorem zi_169_37 : zat 169 37 38 (.aload_n 0) [] := zat_of zP_169 rfl
theorem zi_169_38 : zat 169 38 39 (.getfield 59) [4, 23, 700] := zat_of zP_169 rfl
theorem zi_169_39 : zat 169 39 40 (.iload 6) [] := zat_of zP_169 rfl
theorem zi_169_40 : zat 169 40 41 (.iconst 2) [] := zat_of zP_169 rfl
theorem zi_169_41 : zat 169 41 42 (.iload 7) [] := zat_of zP_169 rfl
theorem zi_169_42 : zat 169 42 43 (.imul) [] := zat_of zP_169 rfl
theorem zi_169_43 : zat 169 43 44 (.iadd) [] := zat_of zP_169 rfl
theorem zi_169_44 : zat 169 44 45 (.iaload) [] := zat_of zP_169 rfl
theorem zi_169_45 : zat 169 45 46 (.invokevirtual 86) [113, 779, 781, 25] := zat_of zP_169 rfl
theorem zi_169_46 : zat 169 46 47 (.ifCond .eq 26) [62] := zat_of zP_169 rfl
theorem zi_169_47 : zat 169 47 48 (.aload_n 0) [] := zat_of zP_169 rfl
theorem zi_169_48 : zat 169 48 49 (.getfield 59) [4, 23, 700] := zat_of zP_169 rfl
theorem zi_169_49 : zat 169 49 50 (.iload 6) [] := zat_of zP_169 rfl
theorem zi_169_50 : zat 169 50 51 (.iconst 2) [] := zat_of zP_169 rfl
theorem zi_169_51 : zat 169 51 52 (.iload 7) [] := zat_of zP_169 rfl
theorem zi_169_52 : zat 169 52 53 (.imul) [] := zat_of zP_169 rfl
theorem zi_169_53 : zat 169 53 54 (.iadd) [] := zat_of zP_169 rfl
theorem zi_169_54 : zat 169 54 55 (.iconst 1) [] := zat_of zP_169 rfl
theorem zi_169_55 : zat 169 55 56 (.iadd) [] := zat_of zP_169 rfl
theorem zi_169_56 : zat 169 56 57 (.iaload) [] := zat_of zP_169 rfl
theorem zi_169_57 : zat 169 57 58 (.i2l) [] := zat_of zP_169 rfl
theorem zi_169_58 : zat 169 58 59 (.lconst 0) [] := zat_of zP_169 rfl
theorem zi_169_59 : zat 169 59 60 (.lconst 1) [] := zat_of zP_169 rfl
theorem zi_169_60 : zat 169 60 61 (.invokestatic 74) [112, 767, 768] := zat_of zP_169 rfl
theorem zi_169_61 : zat 169 61 62 (.ifCond .ne 6) [64] := zat_of zP_169 rfl
theorem zi_169_62 : zat 169 62 63 (.bipush (-2)) [] := zat_of zP_169 rfl
theorem zi_169_63 : zat 169 63 64 (.ireturn) [] := zat_of zP_169 rfl
theorem zi_169_64 : zat 169 64 65 (.iinc 7 1) [] := zat_of zP_169 rfl
theorem zi_169_65 : zat 169 65 66 (.goto (-55)) [33] := zat_of zP_169 rfl
theorem zi_169_66 : zat 169 66 67 (.iconst 0) [] := zat_of zP_169 rfl
theorem zi_169_67 : zat 169 67 68 (.istore 7) [] := zat_of zP_169 rfl
theorem zi_169_68 : zat 169 68 69 (.iconst 0) [] := zat_of zP_169 rfl
theorem zi_169_69 : zat 169 69 70 (.istore 8) [] := zat_of zP_169 rfl
theorem zi_169_70 : zat 169 70 71 (.iconst 0) [] := zat_of zP_169 rfl
theorem zi_169_71 : zat 169 71 72 (.istore 9) [] := zat_of zP_169 rfl
theorem zi_169_72 : zat 169 72 73 (.iload 9) [] := zat_of zP_169 rfl
theorem zi_169_73 : zat 169 73 74 (.iload 4) [] := zat_of zP_169 rfl
theorem zi_169_74 : zat 169 74 75 (.if_icmp .ge 95) [128] := zat_of zP_169 rfl
theorem zi_169_75 : zat 169 75 76 (.aload_n 0) [] := zat_of zP_169 rfl
theorem zi_169_76 : zat 169 76 77 (.getfield 59) [4, 23, 700] := zat_of zP_169 rfl
theorem zi_169_77 : zat 169 77 78 (.iload 6) [] := zat_of zP_169 rfl
theorem zi_169_78 : zat 169 78 79 (.iconst 2) [] := zat_of zP_169 rfl
theorem zi_169_79 : zat 169 79 80 (.iload 9) [] := zat_of zP_169 rfl
theorem zi_169_80 : zat 169 80 81 (.imul) [] := zat_of zP_169 rfl
theorem zi_169_81 : zat 169 81 82 (.iadd) [] := zat_of zP_169 rfl
theorem zi_169_82 : zat 169 82 83 (.iaload) [] := zat_of zP_169 rfl
theorem zi_169_83 : zat 169 83 84 (.istore 10) [] := zat_of zP_169 rfl
theorem zi_169_84 : zat 169 84 85 (.aload_n 0) [] := zat_of zP_169 rfl
theorem zi_169_85 : zat 169 85 86 (.getfield 59) [4, 23, 700] := zat_of zP_169 rfl
theorem zi_169_86 : zat 169 86 87 (.iload 6) [] := zat_of zP_169 rfl
theorem zi_169_87 : zat 169 87 88 (.iconst 2) [] := zat_of zP_169 rfl
theorem zi_169_88 : zat 169 88 89 (.iload 9) [] := zat_of zP_169 rfl
theorem zi_169_89 : zat 169 89 90 (.imul) [] := zat_of zP_169 rfl
theorem zi_169_90 : zat 169 90 91 (.iadd) [] := zat_of zP_169 rfl
theorem zi_169_91 : zat 169 91 92 (.iconst 1) [] := zat_of zP_169 rfl
theorem zi_169_92 : zat 169 92 93 (.iadd) [] := zat_of zP_169 rfl
theorem zi_169_93 : zat 169 93 94 (.iaload) [] := zat_of zP_169 rfl
theorem zi_169_94 : zat 169 94 95 (.istore 11) [] := zat_of zP_169 rfl
theorem zi_169_95 : zat 169 95 96 (.iload 7) [] := zat_of zP_169 rfl
theorem zi_169_96 : zat 169 96 97 (.iload 10) [] := zat_of zP_169 rfl
theorem zi_169_97 : zat 169 97 98 (.ishr) [] := zat_of zP_169 rfl
theorem zi_169_98 : zat 169 98 99 (.iconst 1) [] := zat_of zP_169 rfl
theorem zi_169_99 : zat 169 99 100 (.iand) [] := zat_of zP_169 rfl
theorem zi_169_100 : zat 169 100 101 (.iconst 1) [] := zat_of zP_169 rfl
theorem zi_169_101 : zat 169 101 102 (.if_icmp .eq 24) [111] := zat_of zP_169 rfl
theorem zi_169_102 : zat 169 102 103 (.iload 9) [] := zat_of zP_169 rfl
theorem zi_169_103 : zat 169 103 104 (.ifCond .le 22) [113] := zat_of zP_169 rfl
theorem zi_169_104 : zat 169 104 105 (.aload_n 0) [] := zat_of zP_169 rfl
theorem zi_169_105 : zat 169 105 106 (.iload 10) [] := zat_of zP_169 rfl
theorem zi_169_106 : zat 169 106 107 (.iload 11) [] := zat_of zP_169 rfl
theorem zi_169_107 : zat 169 107 108 (.invokevirtual 90) [114, 783, 785, 26] := zat_of zP_169 rfl
theorem zi_169_108 : zat 169 108 109 (.iload 8) [] := zat_of zP_169 rfl
theorem zi_169_109 : zat 169 109 110 (.invokestatic 161) [137, 845, 846] := zat_of zP_169 rfl
theorem zi_169_110 : zat 169 110 111 (.ifCond .ne 6) [113] := zat_of zP_169 rfl
theorem zi_169_111 : zat 169 111 112 (.iload 9) [] := zat_of zP_169 rfl
theorem zi_169_112 : zat 169 112 113 (.ireturn) [] := zat_of zP_169 rfl
theorem zi_169_113 : zat 169 113 114 (.iload 7) [] := zat_of zP_169 rfl
theorem zi_169_114 : zat 169 114 115 (.iconst 1) [] := zat_of zP_169 rfl
theorem zi_169_115 : zat 169 115 116 (.iload 10) [] := zat_of zP_169 rfl
theorem zi_169_116 : zat 169 116 117 (.ishl) [] := zat_of zP_169 rfl
theorem zi_169_117 : zat 169 117 118 (.ior) [] := zat_of zP_169 rfl
theorem zi_169_118 : zat 169 118 119 (.istore 7) [] := zat_of zP_169 rfl
theorem zi_169_119 : zat 169 119 120 (.aload_n 0) [] := zat_of zP_169 rfl
theorem zi_169_120 : zat 169 120 121 (.iload 10) [] := zat_of zP_169 rfl
theorem zi_169_121 : zat 169 121 122 (.iconst 1) [] := zat_of zP_169 rfl
theorem zi_169_122 : zat 169 122 123 (.iload 11) [] := zat_of zP_169 rfl
theorem zi_169_123 : zat 169 123 124 (.isub) [] := zat_of zP_169 rfl
theorem zi_169_124 : zat 169 124 125 (.invokevirtual 90) [114, 783, 785, 26] := zat_of zP_169 rfl
theorem zi_169_125 : zat 169 125 126 (.istore 8) [] := zat_of zP_169 rfl
theorem zi_169_126 : zat 169 126 127 (.iinc 9 1) [] := zat_of zP_169 rfl
theorem zi_169_127 : zat 169 127 128 (.goto (-96)) [72] := zat_of zP_169 rfl
theorem zi_169_128 : zat 169 128 129 (.bipush (-4)) [] := zat_of zP_169 rfl
theorem zi_169_129 : zat 169 129 130 (.ireturn) [] := zat_of zP_169 rfl
theorem zP_170 : zP 170 = zk_170 := rfl
theorem zi_170_0 : zat 170 0 1 (.aload_n 0) [] := zat_of zP_170 rfl
theorem zi_170_1 : zat 170 1 2 (.getfield 239) [4, 27, 704] := zat_of zP_170 rfl
theorem zi_170_2 : zat 170 2 3 (.iconst 2) [] := zat_of zP_170 rfl
theorem zi_170_3 : zat 170 3 4 (.isub) [] := zat_of zP_170 rfl
theorem zi_170_4 : zat 170 4 5 (.istore_n 1) [] := zat_of zP_170 rfl
theorem zi_170_5 : zat 170 5 6 (.iload_n 1) [] := zat_of zP_170 rfl
theorem zi_170_6 : zat 170 6 7 (.ifCond .lt 26) [20] := zat_of zP_170 rfl
theorem zi_170_7 : zat 170 7 8 (.aload_n 0) [] := zat_of zP_170 rfl
theorem zi_170_8 : zat 170 8 9 (.getfield 62) [4, 24, 701] := zat_of zP_170 rfl
theorem zi_170_9 : zat 170 9 10 (.iload_n 1) [] := zat_of zP_170 rfl
theorem zi_170_10 : zat 170 10 11 (.iaload) [] := zat_of zP_170 rfl
theorem zi_170_11 : zat 170 11 12 (.aload_n 0) [] := zat_of zP_170 rfl
theorem zi_170_12 : zat 170 12 13 (.getfield 62) [4, 24, 701] := zat_of zP_170 rfl
theorem zi_170_13 : zat 170 13 14 (.iload_n 1) [] := zat_of zP_170 rfl
theorem zi_170_14 : zat 170 14 15 (.iconst 1) [] := zat_of zP_170 rfl
theorem zi_170_15 : zat 170 15 16 (.iadd) [] := zat_of zP_170 rfl
theorem zi_170_16 : zat 170 16 17 (.iaload) [] := zat_of zP_170 rfl
theorem zi_170_17 : zat 170 17 18 (.if_icmp .le 9) [20] := zat_of zP_170 rfl
theorem zi_170_18 : zat 170 18 19 (.iinc 1 (-1)) [] := zat_of zP_170 rfl
theorem zi_170_19 : zat 170 19 20 (.goto (-24)) [5] := zat_of zP_170 rfl
theorem zi_170_20 : zat 170 20 21 (.iload_n 1) [] := zat_of zP_170 rfl
theorem zi_170_21 : zat 170 21 22 (.ifCond .ge 5) [24] := zat_of zP_170 rfl
theorem zi_170_22 : zat 170 22 23 (.iconst 0) [] := zat_of zP_170 rfl
theorem zi_170_23 : zat 170 23 24 (.ireturn) [] := zat_of zP_170 rfl
theorem zi_170_24 : zat 170 24 25 (.aload_n 0) [] := zat_of zP_170 rfl
theorem zi_170_25 : zat 170 25 26 (.getfield 239) [4, 27, 704] := zat_of zP_170 rfl
theorem zi_170_26 : zat 170 26 27 (.iconst 1) [] := zat_of zP_170 rfl
theorem zi_170_27 : zat 170 27 28 (.isub) [] := zat_of zP_170 rfl
theorem zi_170_28 : zat 170 28 29 (.istore_n 2) [] := zat_of zP_170 rfl
theorem zi_170_29 : zat 170 29 30 (.aload_n 0) [] := zat_of zP_170 rfl
theorem zi_170_30 : zat 170 30 31 (.getfield 62) [4, 24, 701] := zat_of zP_170 rfl
theorem zi_170_31 : zat 170 31 32 (.iload_n 2) [] := zat_of zP_170 rfl
theorem zi_170_32 : zat 170 32 33 (.iaload) [] := zat_of zP_170 rfl
theorem zi_170_33 : zat 170 33 34 (.aload_n 0) [] := zat_of zP_170 rfl
theorem zi_170_34 : zat 170 34 35 (.getfield 62) [4, 24, 701] := zat_of zP_170 rfl
theorem zi_170_35 : zat 170 35 36 (.iload_n 1) [] := zat_of zP_170 rfl
theorem zi_170_36 : zat 170 36 37 (.iaload) [] := zat_of zP_170 rfl
theorem zi_170_37 : zat 170 37 38 (.if_icmp .ge 9) [40] := zat_of zP_170 rfl
theorem zi_170_38 : zat 170 38 39 (.iinc 2 (-1)) [] := zat_of zP_170 rfl
theorem zi_170_39 : zat 170 39 40 (.goto (-18)) [29] := zat_of zP_170 rfl
theorem zi_170_40 : zat 170 40 41 (.aload_n 0) [] := zat_of zP_170 rfl
theorem zi_170_41 : zat 170 41 42 (.getfield 62) [4, 24, 701] := zat_of zP_170 rfl
theorem zi_170_42 : zat 170 42 43 (.iload_n 1) [] := zat_of zP_170 rfl
theorem zi_170_43 : zat 170 43 44 (.iaload) [] := zat_of zP_170 rfl
theorem zi_170_44 : zat 170 44 45 (.istore_n 3) [] := zat_of zP_170 rfl
theorem zi_170_45 : zat 170 45 46 (.aload_n 0) [] := zat_of zP_170 rfl
theorem zi_170_46 : zat 170 46 47 (.getfield 62) [4, 24, 701] := zat_of zP_170 rfl
theorem zi_170_47 : zat 170 47 48 (.iload_n 1) [] := zat_of zP_170 rfl
theorem zi_170_48 : zat 170 48 49 (.aload_n 0) [] := zat_of zP_170 rfl
theorem zi_170_49 : zat 170 49 50 (.getfield 62) [4, 24, 701] := zat_of zP_170 rfl
theorem zi_170_50 : zat 170 50 51 (.iload_n 2) [] := zat_of zP_170 rfl
theorem zi_170_51 : zat 170 51 52 (.iaload) [] := zat_of zP_170 rfl
theorem zi_170_52 : zat 170 52 53 (.iastore) [] := zat_of zP_170 rfl
theorem zi_170_53 : zat 170 53 54 (.aload_n 0) [] := zat_of zP_170 rfl
theorem zi_170_54 : zat 170 54 55 (.getfield 62) [4, 24, 701] := zat_of zP_170 rfl
theorem zi_170_55 : zat 170 55 56 (.iload_n 2) [] := zat_of zP_170 rfl
theorem zi_170_56 : zat 170 56 57 (.iload_n 3) [] := zat_of zP_170 rfl
theorem zi_170_57 : zat 170 57 58 (.iastore) [] := zat_of zP_170 rfl
theorem zi_170_58 : zat 170 58 59 (.aload_n 0) [] := zat_of zP_170 rfl
theorem zi_170_59 : zat 170 59 60 (.getfield 239) [4, 27, 704] := zat_of zP_170 rfl
theorem zi_170_60 : zat 170 60 61 (.iconst 1) [] := zat_of zP_170 rfl
theorem zi_170_61 : zat 170 61 62 (.isub) [] := zat_of zP_170 rfl
theorem zi_170_62 : zat 170 62 63 (.istore 4) [] := zat_of zP_170 rfl
theorem zi_170_63 : zat 170 63 64 (.iload_n 1) [] := zat_of zP_170 rfl
theorem zi_170_64 : zat 170 64 65 (.iconst 1) [] := zat_of zP_170 rfl
theorem zi_170_65 : zat 170 65 66 (.iadd) [] := zat_of zP_170 rfl
theorem zi_170_66 : zat 170 66 67 (.istore 5) [] := zat_of zP_170 rfl
theorem zi_170_67 : zat 170 67 68 (.iload 5) [] := zat_of zP_170 rfl
theorem zi_170_68 : zat 170 68 69 (.iload 4) [] := zat_of zP_170 rfl
theorem zi_170_69 : zat 170 69 70 (.if_icmp .ge 42) [91] := zat_of zP_170 rfl
theorem zi_170_70 : zat 170 70 71 (.aload_n 0) [] := zat_of zP_170 rfl
theorem zi_170_71 : zat 170 71 72 (.getfield 62) [4, 24, 701] := zat_of zP_170 rfl
theorem zi_170_72 : zat 170 72 73 (.iload 5) [] := zat_of zP_170 rfl
theorem zi_170_73 : zat 170 73 74 (.iaload) [] := zat_of zP_170 rfl
theorem zi_170_74 : zat 170 74 75 (.istore_n 3) [] := zat_of zP_170 rfl
theorem zi_170_75 : zat 170 75 76 (.aload_n 0) [] := zat_of zP_170 rfl
theorem zi_170_76 : zat 170 76 77 (.getfield 62) [4, 24, 701] := zat_of zP_170 rfl
theorem zi_170_77 : zat 170 77 78 (.iload 5) [] := zat_of zP_170 rfl
theorem zi_170_78 : zat 170 78 79 (.aload_n 0) [] := zat_of zP_170 rfl
theorem zi_170_79 : zat 170 79 80 (.getfield 62) [4, 24, 701] := zat_of zP_170 rfl
theorem zi_170_80 : zat 170 80 81 (.iload 4) [] := zat_of zP_170 rfl
theorem zi_170_81 : zat 170 81 82 (.iaload) [] := zat_of zP_170 rfl
theorem zi_170_82 : zat 170 82 83 (.iastore) [] := zat_of zP_170 rfl
theorem zi_170_83 : zat 170 83 84 (.aload_n 0) [] := zat_of zP_170 rfl
theorem zi_170_84 : zat 170 84 85 (.getfield 62) [4, 24, 701] := zat_of zP_170 rfl
theorem zi_170_85 : zat 170 85 86 (.iload 4) [] := zat_of zP_170 rfl
theorem zi_170_86 : zat 170 86 87 (.iload_n 3) [] := zat_of zP_170 rfl
theorem zi_170_87 : zat 170 87 88 (.iastore) [] := zat_of zP_170 rfl
theorem zi_170_88 : zat 170 88 89 (.iinc 4 (-1)) [] := zat_of zP_170 rfl
theorem zi_170_89 : zat 170 89 90 (.iinc 5 1) [] := zat_of zP_170 rfl
theorem zi_170_90 : zat 170 90 91 (.goto (-43)) [67] := zat_of zP_170 rfl
theorem zi_170_91 : zat 170 91 92 (.iconst 1) [] := zat_of zP_170 rfl
theorem zi_170_92 : zat 170 92 93 (.ireturn) [] := zat_of zP_170 rfl
theorem zP_171 : zP 171 = zk_171 := rfl
theorem zi_171_0 : zat 171 0 1 (.aload_n 0) [] := zat_of zP_171 rfl
theorem zi_171_1 : zat 171 1 2 (.iconst 0) [] := zat_of zP_171 rfl
theorem zi_171_2 : zat 171 2 3 (.putfield 94) [4, 4, 681] := zat_of zP_171 rfl
theorem zi_171_3 : zat 171 3 4 (.iconst 1) [] := zat_of zP_171 rfl
theorem zi_171_4 : zat 171 4 5 (.istore_n 3) [] := zat_of zP_171 rfl
theorem zi_171_5 : zat 171 5 6 (.iconst 0) [] := zat_of zP_171 rfl
theorem zi_171_6 : zat 171 6 7 (.istore 4) [] := zat_of zP_171 rfl
theorem zi_171_7 : zat 171 7 8 (.iload 4) [] := zat_of zP_171 rfl
theorem zi_171_8 : zat 171 8 9 (.aload_n 0) [] := zat_of zP_171 rfl
theorem zi_171_9 : zat 171 9 10 (.getfield 239) [4, 27, 704] := zat_of zP_171 rfl
theorem zi_171_10 : zat 171 10 11 (.if_icmp .ge 43) [33] := zat_of zP_171 rfl
theorem zi_171_11 : zat 171 11 12 (.iload_n 3) [] := zat_of zP_171 rfl
theorem zi_171_12 : zat 171 12 13 (.ifCond .eq 39) [33] := zat_of zP_171 rfl
theorem zi_171_13 : zat 171 13 14 (.aload_n 0) [] := zat_of zP_171 rfl
theorem zi_171_14 : zat 171 14 15 (.aload_n 0) [] := zat_of zP_171 rfl
theorem zi_171_15 : zat 171 15 16 (.getfield 62) [4, 24, 701] := zat_of zP_171 rfl
theorem zi_171_16 : zat 171 16 17 (.iload 4) [] := zat_of zP_171 rfl
theorem zi_171_17 : zat 171 17 18 (.iaload) [] := zat_of zP_171 rfl
theorem zi_171_18 : zat 171 18 19 (.iconst 0) [] := zat_of zP_171 rfl
theorem zi_171_19 : zat 171 19 20 (.invokevirtual 165) [138, 841, 843, 33] := zat_of zP_171 rfl
theorem zi_171_20 : zat 171 20 21 (.istore_n 3) [] := zat_of zP_171 rfl
theorem zi_171_21 : zat 171 21 22 (.iload_n 3) [] := zat_of zP_171 rfl
theorem zi_171_22 : zat 171 22 23 (.ifCond .eq 16) [31] := zat_of zP_171 rfl
theorem zi_171_23 : zat 171 23 24 (.aload_n 0) [] := zat_of zP_171 rfl
theorem zi_171_24 : zat 171 24 25 (.aload_n 0) [] := zat_of zP_171 rfl
theorem zi_171_25 : zat 171 25 26 (.getfield 62) [4, 24, 701] := zat_of zP_171 rfl
theorem zi_171_26 : zat 171 26 27 (.iload 4) [] := zat_of zP_171 rfl
theorem zi_171_27 : zat 171 27 28 (.iaload) [] := zat_of zP_171 rfl
theorem zi_171_28 : zat 171 28 29 (.iconst 0) [] := zat_of zP_171 rfl
theorem zi_171_29 : zat 171 29 30 (.invokevirtual 177) [140, 856, 858, 35] := zat_of zP_171 rfl
theorem zi_171_30 : zat 171 30 31 (.pop) [] := zat_of zP_171 rfl
theorem zi_171_31 : zat 171 31 32 (.iinc 4 1) [] := zat_of zP_171 rfl
theorem zi_171_32 : zat 171 32 33 (.goto (-46)) [7] := zat_of zP_171 rfl
theorem zi_171_33 : zat 171 33 34 (.iconst 0) [] := zat_of zP_171 rfl
theorem zi_171_34 : zat 171 34 35 (.istore 4) [] := zat_of zP_171 rfl
theorem zi_171_35 : zat 171 35 36 (.iconst 0) [] := zat_of zP_171 rfl
theorem zi_171_36 : zat 171 36 37 (.istore 5) [] := zat_of zP_171 rfl
theorem zi_171_37 : zat 171 37 38 (.iload 5) [] := zat_of zP_171 rfl
theorem zi_171_38 : zat 171 38 39 (.aload_n 0) [] := zat_of zP_171 rfl
theorem zi_171_39 : zat 171 39 40 (.getfield 71) [4, 1, 678] := zat_of zP_171 rfl
theorem zi_171_40 : zat 171 40 41 (.if_icmp .ge 86) [93] := zat_of zP_171 rfl
theorem zi_171_41 : zat 171 41 42 (.iload_n 3) [] := zat_of zP_171 rfl
theorem zi_171_42 : zat 171 42 43 (.ifCond .eq 82) [93] := zat_of zP_171 rfl
theorem zi_171_43 : zat 171 43 44 (.iload_n 1) [] := zat_of zP_171 rfl
theorem zi_171_44 : zat 171 44 45 (.iload 5) [] := zat_of zP_171 rfl
theorem zi_171_45 : zat 171 45 46 (.ishr) [] := zat_of zP_171 rfl
theorem zi_171_46 : zat 171 46 47 (.iconst 1) [] := zat_of zP_171 rfl
theorem zi_171_47 : zat 171 47 48 (.iand) [] := zat_of zP_171 rfl
theorem zi_171_48 : zat 171 48 49 (.iconst 1) [] := zat_of zP_171 rfl
theorem zi_171_49 : zat 171 49 50 (.if_icmp .ne 66) [91] := zat_of zP_171 rfl
theorem zi_171_50 : zat 171 50 51 (.aload_n 0) [] := zat_of zP_171 rfl
theorem zi_171_51 : zat 171 51 52 (.getfield 7) [4, 0, 677] := zat_of zP_171 rfl
theorem zi_171_52 : zat 171 52 53 (.bipush 6) [] := zat_of zP_171 rfl
theorem zi_171_53 : zat 171 53 54 (.iload 5) [] := zat_of zP_171 rfl
theorem zi_171_54 : zat 171 54 55 (.imul) [] := zat_of zP_171 rfl
theorem zi_171_55 : zat 171 55 56 (.iconst 3) [] := zat_of zP_171 rfl
theorem zi_171_56 : zat 171 56 57 (.iadd) [] := zat_of zP_171 rfl
theorem zi_171_57 : zat 171 57 58 (.iaload) [] := zat_of zP_171 rfl
theorem zi_171_58 : zat 171 58 59 (.aload_n 0) [] := zat_of zP_171 rfl
theorem zi_171_59 : zat 171 59 60 (.getfield 59) [4, 23, 700] := zat_of zP_171 rfl
theorem zi_171_60 : zat 171 60 61 (.iload_n 2) [] := zat_of zP_171 rfl
theorem zi_171_61 : zat 171 61 62 (.iconst 2) [] := zat_of zP_171 rfl
theorem zi_171_62 : zat 171 62 63 (.iload 4) [] := zat_of zP_171 rfl
theorem zi_171_63 : zat 171 63 64 (.imul) [] := zat_of zP_171 rfl
theorem zi_171_64 : zat 171 64 65 (.iadd) [] := zat_of zP_171 rfl
theorem zi_171_65 : zat 171 65 66 (.iaload) [] := zat_of zP_171 rfl
theorem zi_171_66 : zat 171 66 67 (.if_icmp .ne 35) [88] := zat_of zP_171 rfl
theorem zi_171_67 : zat 171 67 68 (.aload_n 0) [] := zat_of zP_171 rfl
theorem zi_171_68 : zat 171 68 69 (.getfield 7) [4, 0, 677] := zat_of zP_171 rfl
theorem zi_171_69 : zat 171 69 70 (.bipush 6) [] := zat_of zP_171 rfl
theorem zi_171_70 : zat 171 70 71 (.iload 5) [] := zat_of zP_171 rfl
theorem zi_171_71 : zat 171 71 72 (.imul) [] := zat_of zP_171 rfl
theorem zi_171_72 : zat 171 72 73 (.iconst 4) [] := zat_of zP_171 rfl
theorem zi_171_73 : zat 171 73 74 (.iadd) [] := zat_of zP_171 rfl
theorem zi_171_74 : zat 171 74 75 (.iaload) [] := zat_of zP_171 rfl
theorem zi_171_75 : zat 171 75 76 (.aload_n 0) [] := zat_of zP_171 rfl
theorem zi_171_76 : zat 171 76 77 (.getfield 59) [4, 23, 700] := zat_of zP_171 rfl
theorem zi_171_77 : zat 171 77 78 (.iload_n 2) [] := zat_of zP_171 rfl
theorem zi_171_78 : zat 171 78 79 (.iconst 2) [] := zat_of zP_171 rfl
theorem zi_171_79 : zat 171 79 80 (.iload 4) [] := zat_of zP_171 rfl
theorem zi_171_80 : zat 171 80 81 (.imul) [] := zat_of zP_171 rfl
theorem zi_171_81 : zat 171 81 82 (.iadd) [] := zat_of zP_171 rfl
theorem zi_171_82 : zat 171 82 83 (.iconst 1) [] := zat_of zP_171 rfl
theorem zi_171_83 : zat 171 83 84 (.iadd) [] := zat_of zP_171 rfl
theorem zi_171_84 : zat 171 84 85 (.iaload) [] := zat_of zP_171 rfl
theorem zi_171_85 : zat 171 85 86 (.if_icmp .ne 7) [88] := zat_of zP_171 rfl
theorem zi_171_86 : zat 171 86 87 (.iconst 1) [] := zat_of zP_171 rfl
theorem zi_171_87 : zat 171 87 88 (.goto 4) [89] := zat_of zP_171 rfl
theorem zi_171_88 : zat 171 88 89 (.iconst 0) [] := zat_of zP_171 rfl
theorem zi_171_89 : zat 171 89 90 (.istore_n 3) [] := zat_of zP_171 rfl
theorem zi_171_90 : zat 171 90 91 (.iinc 4 1) [] := zat_of zP_171 rfl
theorem zi_171_91 : zat 171 91 92 (.iinc 5 1) [] := zat_of zP_171 rfl
theorem zi_171_92 : zat 171 92 93 (.goto (-89)) [37] := zat_of zP_171 rfl
theorem zi_171_93 : zat 171 93 94 (.aload_n 0) [] := zat_of zP_171 rfl
theorem zi_171_94 : zat 171 94 95 (.aload_n 0) [] := zat_of zP_171 rfl
theorem zi_171_95 : zat 171 95 96 (.getfield 38) [4, 15, 692] := zat_of zP_171 rfl
theorem zi_171_96 : zat 171 96 97 (.aload_n 0) [] := zat_of zP_171 rfl
theorem zi_171_97 : zat 171 97 98 (.getfield 94) [4, 4, 681] := zat_of zP_171 rfl
theorem zi_171_98 : zat 171 98 99 (.invokevirtual 209) [156, 954, 956, 49] := zat_of zP_171 rfl
theorem zi_171_99 : zat 171 99 100 (.iload_n 3) [] := zat_of zP_171 rfl
theorem zi_171_100 : zat 171 100 101 (.ireturn) [] := zat_of zP_171 rfl
theorem zP_172 : zP 172 = zk_172 := rfl
theorem zi_172_0 : zat 172 0 1 (.aload_n 0) [] := zat_of zP_172 rfl
theorem zi_172_1 : zat 172 1 2 (.getfield 94) [4, 4, 681] := zat_of zP_172 rfl
theorem zi_172_2 : zat 172 2 3 (.istore_n 3) [] := zat_of zP_172 rfl
theorem zi_172_3 : zat 172 3 4 (.aload_n 0) [] := zat_of zP_172 rfl
theorem zi_172_4 : zat 172 4 5 (.getfield 137) [4, 6, 683] := zat_of zP_172 rfl
theorem zi_172_5 : zat 172 5 6 (.istore 4) [] := zat_of zP_172 rfl
theorem zi_172_6 : zat 172 6 7 (.iconst 0) [] := zat_of zP_172 rfl
theorem zi_172_7 : zat 172 7 8 (.istore 5) [] := zat_of zP_172 rfl
theorem zi_172_8 : zat 172 8 9 (.iload 5) [] := zat_of zP_172 rfl
theorem zi_172_9 : zat 172 9 10 (.bipush 12) [] := zat_of zP_172 rfl
theorem zi_172_10 : zat 172 10 11 (.if_icmp .ge 40) [31] := zat_of zP_172 rfl
theorem zi_172_11 : zat 172 11 12 (.aload_n 0) [] := zat_of zP_172 rfl
theorem zi_172_12 : zat 172 12 13 (.getfield 68) [4, 26, 703] := zat_of zP_172 rfl
theorem zi_172_13 : zat 172 13 14 (.iload 5) [] := zat_of zP_172 rfl
theorem zi_172_14 : zat 172 14 15 (.aload_n 0) [] := zat_of zP_172 rfl
theorem zi_172_15 : zat 172 15 16 (.getfield 13) [4, 2, 679] := zat_of zP_172 rfl
theorem zi_172_16 : zat 172 16 17 (.iload 5) [] := zat_of zP_172 rfl
theorem zi_172_17 : zat 172 17 18 (.iaload) [] := zat_of zP_172 rfl
theorem zi_172_18 : zat 172 18 19 (.iastore) [] := zat_of zP_172 rfl
theorem zi_172_19 : zat 172 19 20 (.aload_n 0) [] := zat_of zP_172 rfl
theorem zi_172_20 : zat 172 20 21 (.getfield 68) [4, 26, 703] := zat_of zP_172 rfl
theorem zi_172_21 : zat 172 21 22 (.bipush 12) [] := zat_of zP_172 rfl
theorem zi_172_22 : zat 172 22 23 (.iload 5) [] := zat_of zP_172 rfl
theorem zi_172_23 : zat 172 23 24 (.iadd) [] := zat_of zP_172 rfl
theorem zi_172_24 : zat 172 24 25 (.aload_n 0) [] := zat_of zP_172 rfl
theorem zi_172_25 : zat 172 25 26 (.getfield 16) [4, 3, 680] := zat_of zP_172 rfl
theorem zi_172_26 : zat 172 26 27 (.iload 5) [] := zat_of zP_172 rfl
theorem zi_172_27 : zat 172 27 28 (.iaload) [] := zat_of zP_172 rfl
theorem zi_172_28 : zat 172 28 29 (.iastore) [] := zat_of zP_172 rfl
theorem zi_172_29 : zat 172 29 30 (.iinc 5 1) [] := zat_of zP_172 rfl
theorem zi_172_30 : zat 172 30 31 (.goto (-41)) [8] := zat_of zP_172 rfl
theorem zi_172_31 : zat 172 31 32 (.aload_n 0) [] := zat_of zP_172 rfl
theorem zi_172_32 : zat 172 32 33 (.aload_n 0) [] := zat_of zP_172 rfl
theorem zi_172_33 : zat 172 33 34 (.getfield 38) [4, 15, 692] := zat_of zP_172 rfl
theorem zi_172_34 : zat 172 34 35 (.invokevirtual 205) [155, 946, 948, 47] := zat_of zP_172 rfl
theorem zi_172_35 : zat 172 35 36 (.aload_n 0) [] := zat_of zP_172 rfl
theorem zi_172_36 : zat 172 36 37 (.iconst 0) [] := zat_of zP_172 rfl
theorem zi_172_37 : zat 172 37 38 (.putfield 137) [4, 6, 683] := zat_of zP_172 rfl
theorem zi_172_38 : zat 172 38 39 (.iconst 0) [] := zat_of zP_172 rfl
theorem zi_172_39 : zat 172 39 40 (.istore 5) [] := zat_of zP_172 rfl
theorem zi_172_40 : zat 172 40 41 (.iconst 1) [] := zat_of zP_172 rfl
theorem zi_172_41 : zat 172 41 42 (.istore 6) [] := zat_of zP_172 rfl
theorem zi_172_42 : zat 172 42 43 (.iload 6) [] := zat_of zP_172 rfl
theorem zi_172_43 : zat 172 43 44 (.ifCond .eq 61) [72] := zat_of zP_172 rfl
theorem zi_172_44 : zat 172 44 45 (.aload_n 0) [] := zat_of zP_172 rfl
theorem zi_172_45 : zat 172 45 46 (.iload_n 1) [] := zat_of zP_172 rfl
theorem zi_172_46 : zat 172 46 47 (.iload_n 2) [] := zat_of zP_172 rfl
theorem zi_172_47 : zat 172 47 48 (.invokevirtual 242) [171, 1014, 1016, 53] := zat_of zP_172 rfl
theorem zi_172_48 : zat 172 48 49 (.ifCond .eq 43) [68] := zat_of zP_172 rfl
theorem zi_172_49 : zat 172 49 50 (.iconst 0) [] := zat_of zP_172 rfl
theorem zi_172_50 : zat 172 50 51 (.istore 7) [] := zat_of zP_172 rfl
theorem zi_172_51 : zat 172 51 52 (.iload 7) [] := zat_of zP_172 rfl
theorem zi_172_52 : zat 172 52 53 (.aload_n 0) [] := zat_of zP_172 rfl
theorem zi_172_53 : zat 172 53 54 (.getfield 239) [4, 27, 704] := zat_of zP_172 rfl
theorem zi_172_54 : zat 172 54 55 (.if_icmp .ge 28) [67] := zat_of zP_172 rfl
theorem zi_172_55 : zat 172 55 56 (.iload 5) [] := zat_of zP_172 rfl
theorem zi_172_56 : zat 172 56 57 (.ifCond .ne 23) [67] := zat_of zP_172 rfl
theorem zi_172_57 : zat 172 57 58 (.aload_n 0) [] := zat_of zP_172 rfl
theorem zi_172_58 : zat 172 58 59 (.getfield 65) [4, 25, 702] := zat_of zP_172 rfl
theorem zi_172_59 : zat 172 59 60 (.iload 7) [] := zat_of zP_172 rfl
theorem zi_172_60 : zat 172 60 61 (.aload_n 0) [] := zat_of zP_172 rfl
theorem zi_172_61 : zat 172 61 62 (.getfield 62) [4, 24, 701] := zat_of zP_172 rfl
theorem zi_172_62 : zat 172 62 63 (.iload 7) [] := zat_of zP_172 rfl
theorem zi_172_63 : zat 172 63 64 (.iaload) [] := zat_of zP_172 rfl
theorem zi_172_64 : zat 172 64 65 (.iastore) [] := zat_of zP_172 rfl
theorem zi_172_65 : zat 172 65 66 (.iinc 7 1) [] := zat_of zP_172 rfl
theorem zi_172_66 : zat 172 66 67 (.goto (-31)) [51] := zat_of zP_172 rfl
theorem zi_172_67 : zat 172 67 68 (.iinc 5 1) [] := zat_of zP_172 rfl
theorem zi_172_68 : zat 172 68 69 (.aload_n 0) [] := zat_of zP_172 rfl
theorem zi_172_69 : zat 172 69 70 (.invokevirtual 245) [170, 1018, 1020, 54] := zat_of zP_172 rfl
theorem zi_172_70 : zat 172 70 71 (.istore 6) [] := zat_of zP_172 rfl
theorem zi_172_71 : zat 172 71 72 (.goto (-60)) [42] := zat_of zP_172 rfl
theorem zi_172_72 : zat 172 72 73 (.aload_n 0) [] := zat_of zP_172 rfl
theorem zi_172_73 : zat 172 73 74 (.iload_n 3) [] := zat_of zP_172 rfl
theorem zi_172_74 : zat 172 74 75 (.putfield 94) [4, 4, 681] := zat_of zP_172 rfl
theorem zi_172_75 : zat 172 75 76 (.aload_n 0) [] := zat_of zP_172 rfl
theorem zi_172_76 : zat 172 76 77 (.iload 4) [] := zat_of zP_172 rfl
theorem zi_172_77 : zat 172 77 78 (.putfield 137) [4, 6, 683] := zat_of zP_172 rfl
theorem zi_172_78 : zat 172 78 79 (.iconst 0) [] := zat_of zP_172 rfl
theorem zi_172_79 : zat 172 79 80 (.istore 7) [] := zat_of zP_172 rfl
theorem zi_172_80 : zat 172 80 81 (.iload 7) [] := zat_of zP_172 rfl
theorem zi_172_81 : zat 172 81 82 (.bipush 12) [] := zat_of zP_172 rfl
theorem zi_172_82 : zat 172 82 83 (.if_icmp .ge 40) [103] := zat_of zP_172 rfl
theorem zi_172_83 : zat 172 83 84 (.aload_n 0) [] := zat_of zP_172 rfl
theorem zi_172_84 : zat 172 84 85 (.getfield 13) [4, 2, 679] := zat_of zP_172 rfl
theorem zi_172_85 : zat 172 85 86 (.iload 7) [] := zat_of zP_172 rfl
theorem zi_172_86 : zat 172 86 87 (.aload_n 0) [] := zat_of zP_172 rfl
theorem zi_172_87 : zat 172 87 88 (.getfield 68) [4, 26, 703] := zat_of zP_172 rfl
theorem zi_172_88 : zat 172 88 89 (.iload 7) [] := zat_of zP_172 rfl
theorem zi_172_89 : zat 172 89 90 (.iaload) [] := zat_of zP_172 rfl
theorem zi_172_90 : zat 172 90 91 (.iastore) [] := zat_of zP_172 rfl
theorem zi_172_91 : zat 172 91 92 (.aload_n 0) [] := zat_of zP_172 rfl
theorem zi_172_92 : zat 172 92 93 (.getfield 16) [4, 3, 680] := zat_of zP_172 rfl
theorem zi_172_93 : zat 172 93 94 (.iload 7) [] := zat_of zP_172 rfl
theorem zi_172_94 : zat 172 94 95 (.aload_n 0) [] := zat_of zP_172 rfl
theorem zi_172_95 : zat 172 95 96 (.getfield 68) [4, 26, 703] := zat_of zP_172 rfl
theorem zi_172_96 : zat 172 96 97 (.bipush 12) [] := zat_of zP_172 rfl
theorem zi_172_97 : zat 172 97 98 (.iload 7) [] := zat_of zP_172 rfl
theorem zi_172_98 : zat 172 98 99 (.iadd) [] := zat_of zP_172 rfl
theorem zi_172_99 : zat 172 99 100 (.iaload) [] := zat_of zP_172 rfl
theorem zi_172_100 : zat 172 100 101 (.iastore) [] := zat_of zP_172 rfl
theorem zi_172_101 : zat 172 101 102 (.iinc 7 1) [] := zat_of zP_172 rfl
theorem zi_172_102 : zat 172 102 103 (.goto (-41)) [80] := zat_of zP_172 rfl
theorem zi_172_103 : zat 172 103 104 (.iload 5) [] := zat_of zP_172 rfl
theorem zi_172_104 : zat 172 104 105 (.ireturn) [] := zat_of zP_172 rfl
theorem zP_173 : zP 173 = zk_173 := rfl
theorem zi_173_0 : zat 173 0 1 (.iload_n 1) [] := zat_of zP_173 rfl
theorem zi_173_1 : zat 173 1 2 (.i2l) [] := zat_of zP_173 rfl
theorem zi_173_2 : zat 173 2 3 (.lconst 1) [] := zat_of zP_173 rfl
theorem zi_173_3 : zat 173 3 4 (.iconst 1) [] := zat_of zP_173 rfl
theorem zi_173_4 : zat 173 4 5 (.aload_n 0) [] := zat_of zP_173 rfl
theorem zi_173_5 : zat 173 5 6 (.getfield 71) [4, 1, 678] := zat_of zP_173 rfl
theorem zi_173_6 : zat 173 6 7 (.ishl) [] := zat_of zP_173 rfl
theorem zi_173_7 : zat 173 7 8 (.iconst 1) [] := zat_of zP_173 rfl
theorem zi_173_8 : zat 173 8 9 (.isub) [] := zat_of zP_173 rfl
theorem zi_173_9 : zat 173 9 10 (.i2l) [] := zat_of zP_173 rfl
theorem zi_173_10 : zat 173 10 11 (.invokestatic 74) [112, 767, 768] := zat_of zP_173 rfl
theorem zi_173_11 : zat 173 11 12 (.ifCond .eq 11) [16] := zat_of zP_173 rfl
theorem zi_173_12 : zat 173 12 13 (.iload_n 2) [] := zat_of zP_173 rfl
theorem zi_173_13 : zat 173 13 14 (.iload_n 3) [] := zat_of zP_173 rfl
theorem zi_173_14 : zat 173 14 15 (.invokestatic 233) [164, 987, 988] := zat_of zP_173 rfl
theorem zi_173_15 : zat 173 15 16 (.ifCond .ne 5) [18] := zat_of zP_173 rfl
theorem zi_173_16 : zat 173 16 17 (.iconst (-1)) [] := zat_of zP_173 rfl
theorem zi_173_17 : zat 173 17 18 (.ireturn) [] := zat_of zP_173 rfl
theorem zi_173_18 : zat 173 18 19 (.aload_n 0) [] := zat_of zP_173 rfl
theorem zi_173_19 : zat 173 19 20 (.iconst 0) [] := zat_of zP_173 rfl
theorem zi_173_20 : zat 173 20 21 (.putfield 239) [4, 27, 704] := zat_of zP_173 rfl
theorem zi_173_21 : zat 173 21 22 (.iconst 0) [] := zat_of zP_173 rfl
theorem zi_173_22 : zat 173 22 23 (.istore 6) [] := zat_of zP_173 rfl
theorem zi_173_23 : zat 173 23 24 (.iload 6) [] := zat_of zP_173 rfl
theorem zi_173_24 : zat 173 24 25 (.aload_n 0) [] := zat_of zP_173 rfl
theorem zi_173_25 : zat 173 25 26 (.getfield 71) [4, 1, 678] := zat_of zP_173 rfl
theorem zi_173_26 : zat 173 26 27 (.if_icmp .ge 50) [54] := zat_of zP_173 rfl
theorem zi_173_27 : zat 173 27 28 (.iload_n 1) [] := zat_of zP_173 rfl
theorem zi_173_28 : zat 173 28 29 (.iload 6) [] := zat_of zP_173 rfl
theorem zi_173_29 : zat 173 29 30 (.ishr) [] := zat_of zP_173 rfl
theorem zi_173_30 : zat 173 30 31 (.iconst 1) [] := zat_of zP_173 rfl
theorem zi_173_31 : zat 173 31 32 (.iand) [] := zat_of zP_173 rfl
theorem zi_173_32 : zat 173 32 33 (.iconst 1) [] := zat_of zP_173 rfl
theorem zi_173_33 : zat 173 33 34 (.if_icmp .ne 34) [52] := zat_of zP_173 rfl
theorem zi_173_34 : zat 173 34 35 (.aload_n 0) [] := zat_of zP_173 rfl
theorem zi_173_35 : zat 173 35 36 (.getfield 239) [4, 27, 704] := zat_of zP_173 rfl
theorem zi_173_36 : zat 173 36 37 (.iconst 5) [] := zat_of zP_173 rfl
theorem zi_173_37 : zat 173 37 38 (.if_icmp .ne 5) [40] := zat_of zP_173 rfl
theorem zi_173_38 : zat 173 38 39 (.iconst (-1)) [] := zat_of zP_173 rfl
theorem zi_173_39 : zat 173 39 40 (.ireturn) [] := zat_of zP_173 rfl
theorem zi_173_40 : zat 173 40 41 (.aload_n 0) [] := zat_of zP_173 rfl
theorem zi_173_41 : zat 173 41 42 (.getfield 62) [4, 24, 701] := zat_of zP_173 rfl
theorem zi_173_42 : zat 173 42 43 (.aload_n 0) [] := zat_of zP_173 rfl
theorem zi_173_43 : zat 173 43 44 (.getfield 239) [4, 27, 704] := zat_of zP_173 rfl
theorem zi_173_44 : zat 173 44 45 (.iload 6) [] := zat_of zP_173 rfl
theorem zi_173_45 : zat 173 45 46 (.iastore) [] := zat_of zP_173 rfl
theorem zi_173_46 : zat 173 46 47 (.aload_n 0) [] := zat_of zP_173 rfl
theorem zi_173_47 : zat 173 47 48 (.dup) [] := zat_of zP_173 rfl
theorem zi_173_48 : zat 173 48 49 (.getfield 239) [4, 27, 704] := zat_of zP_173 rfl
theorem zi_173_49 : zat 173 49 50 (.iconst 1) [] := zat_of zP_173 rfl
theorem zi_173_50 : zat 173 50 51 (.iadd) [] := zat_of zP_173 rfl
theorem zi_173_51 : zat 173 51 52 (.putfield 239) [4, 27, 704] := zat_of zP_173 rfl
theorem zi_173_52 : zat 173 52 53 (.iinc 6 1) [] := zat_of zP_173 rfl
theorem zi_173_53 : zat 173 53 54 (.goto (-53)) [23] := zat_of zP_173 rfl
theorem zi_173_54 : zat 173 54 55 (.aload_n 0) [] := zat_of zP_173 rfl
theorem zi_173_55 : zat 173 55 56 (.getfield 239) [4, 27, 704] := zat_of zP_173 rfl
theorem zi_173_56 : zat 173 56 57 (.iconst 2) [] := zat_of zP_173 rfl
theorem zi_173_57 : zat 173 57 58 (.if_icmp .lt 22) [68] := zat_of zP_173 rfl
theorem zi_173_58 : zat 173 58 59 (.iload 5) [] := zat_of zP_173 rfl
theorem zi_173_59 : zat 173 59 60 (.i2l) [] := zat_of zP_173 rfl
theorem zi_173_60 : zat 173 60 61 (.ldc2_w 103) [1, 1, 800] := zat_of zP_173 rfl
theorem zi_173_61 : zat 173 61 62 (.aload_n 0) [] := zat_of zP_173 rfl
theorem zi_173_62 : zat 173 62 63 (.getfield 239) [4, 27, 704] := zat_of zP_173 rfl
theorem zi_173_63 : zat 173 63 64 (.iconst 1) [] := zat_of zP_173 rfl
theorem zi_173_64 : zat 173 64 65 (.isub) [] := zat_of zP_173 rfl
theorem zi_173_65 : zat 173 65 66 (.i2l) [] := zat_of zP_173 rfl
theorem zi_173_66 : zat 173 66 67 (.invokestatic 74) [112, 767, 768] := zat_of zP_173 rfl
theorem zi_173_67 : zat 173 67 68 (.ifCond .ne 5) [70] := zat_of zP_173 rfl
theorem zi_173_68 : zat 173 68 69 (.iconst (-1)) [] := zat_of zP_173 rfl
theorem zi_173_69 : zat 173 69 70 (.ireturn) [] := zat_of zP_173 rfl
theorem zi_173_70 : zat 173 70 71 (.aload_n 0) [] := zat_of zP_173 rfl
theorem zi_173_71 : zat 173 71 72 (.iload_n 2) [] := zat_of zP_173 rfl
theorem zi_173_72 : zat 173 72 73 (.iload_n 3) [] := zat_of zP_173 rfl
theorem zi_173_73 : zat 173 73 74 (.iload 4) [] := zat_of zP_173 rfl
theorem zi_173_74 : zat 173 74 75 (.iconst 2) [] := zat_of zP_173 rfl
theorem zi_173_75 : zat 173 75 76 (.aload_n 0) [] := zat_of zP_173 rfl
theorem zi_173_76 : zat 173 76 77 (.getfield 239) [4, 27, 704] := zat_of zP_173 rfl
theorem zi_173_77 : zat 173 77 78 (.imul) [] := zat_of zP_173 rfl
theorem zi_173_78 : zat 173 78 79 (.invokevirtual 236) [167, 998, 1000, 51] := zat_of zP_173 rfl
theorem zi_173_79 : zat 173 79 80 (.istore 6) [] := zat_of zP_173 rfl
theorem zi_173_80 : zat 173 80 81 (.iload 6) [] := zat_of zP_173 rfl
theorem zi_173_81 : zat 173 81 82 (.ifCond .ge 6) [84] := zat_of zP_173 rfl
theorem zi_173_82 : zat 173 82 83 (.iload 6) [] := zat_of zP_173 rfl
theorem zi_173_83 : zat 173 83 84 (.ireturn) [] := zat_of zP_173 rfl
theorem zi_173_84 : zat 173 84 85 (.aload_n 0) [] := zat_of zP_173 rfl
theorem zi_173_85 : zat 173 85 86 (.iload_n 1) [] := zat_of zP_173 rfl
theorem zi_173_86 : zat 173 86 87 (.bipush 24) [] := zat_of zP_173 rfl
theorem zi_173_87 : zat 173 87 88 (.iload_n 2) [] := zat_of zP_173 rfl
theorem zi_173_88 : zat 173 88 89 (.imul) [] := zat_of zP_173 rfl
theorem zi_173_89 : zat 173 89 90 (.iload 4) [] := zat_of zP_173 rfl
theorem zi_173_90 : zat 173 90 91 (.iadd) [] := zat_of zP_173 rfl
theorem zi_173_91 : zat 173 91 92 (.invokevirtual 248) [172, 1010, 1012, 52] := zat_of zP_173 rfl
theorem zi_173_92 : zat 173 92 93 (.istore 7) [] := zat_of zP_173 rfl
theorem zi_173_93 : zat 173 93 94 (.iload 7) [] := zat_of zP_173 rfl
theorem zi_173_94 : zat 173 94 95 (.ifCond .ne 8) [97] := zat_of zP_173 rfl
theorem zi_173_95 : zat 173 95 96 (.bipush (-4)) [] := zat_of zP_173 rfl
theorem zi_173_96 : zat 173 96 97 (.goto 20) [105] := zat_of zP_173 rfl
theorem zi_173_97 : zat 173 97 98 (.iload 5) [] := zat_of zP_173 rfl
theorem zi_173_98 : zat 173 98 99 (.ifCond .ge 8) [101] := zat_of zP_173 rfl
theorem zi_173_99 : zat 173 99 100 (.iload 7) [] := zat_of zP_173 rfl
theorem zi_173_100 : zat 173 100 101 (.goto 10) [105] := zat_of zP_173 rfl
theorem zi_173_101 : zat 173 101 102 (.aload_n 0) [] := zat_of zP_173 rfl
theorem zi_173_102 : zat 173 102 103 (.getfield 65) [4, 25, 702] := zat_of zP_173 rfl
theorem zi_173_103 : zat 173 103 104 (.iload 5) [] := zat_of zP_173 rfl
theorem zi_173_104 : zat 173 104 105 (.iaload) [] := zat_of zP_173 rfl
theorem zi_173_105 : zat 173 105 106 (.ireturn) [] := zat_of zP_173 rfl
theorem zP_174 : zP 174 = zk_174 := rfl
theorem zi_174_0 : zat 174 0 1 (.iload_n 1) [] := zat_of zP_174 rfl
theorem zi_174_1 : zat 174 1 2 (.iload_n 2) [] := zat_of zP_174 rfl
theorem zi_174_2 : zat 174 2 3 (.invokestatic 233) [164, 987, 988] := zat_of zP_174 rfl
theorem zi_174_3 : zat 174 3 4 (.ifCond .ne 5) [6] := zat_of zP_174 rfl
theorem zi_174_4 : zat 174 4 5 (.iconst (-1)) [] := zat_of zP_174 rfl
theorem zi_174_5 : zat 174 5 6 (.ireturn) [] := zat_of zP_174 rfl
theorem zi_174_6 : zat 174 6 7 (.aload_n 0) [] := zat_of zP_174 rfl
theorem zi_174_7 : zat 174 7 8 (.iload_n 1) [] := zat_of zP_174 rfl
theorem zi_174_8 : zat 174 8 9 (.iload_n 2) [] := zat_of zP_174 rfl
theorem zi_174_9 : zat 174 9 10 (.iload_n 3) [] := zat_of zP_174 rfl
theorem zi_174_10 : zat 174 10 11 (.iconst 2) [] := zat_of zP_174 rfl
theorem zi_174_11 : zat 174 11 12 (.aload_n 0) [] := zat_of zP_174 rfl
theorem zi_174_12 : zat 174 12 13 (.getfield 94) [4, 4, 681] := zat_of zP_174 rfl
theorem zi_174_13 : zat 174 13 14 (.imul) [] := zat_of zP_174 rfl
theorem zi_174_14 : zat 174 14 15 (.invokevirtual 236) [167, 998, 1000, 51] := zat_of zP_174 rfl
theorem zi_174_15 : zat 174 15 16 (.istore 4) [] := zat_of zP_174 rfl
theorem zi_174_16 : zat 174 16 17 (.iload 4) [] := zat_of zP_174 rfl
theorem zi_174_17 : zat 174 17 18 (.ifCond .ge 6) [20] := zat_of zP_174 rfl
theorem zi_174_18 : zat 174 18 19 (.iload 4) [] := zat_of zP_174 rfl
theorem zi_174_19 : zat 174 19 20 (.ireturn) [] := zat_of zP_174 rfl
theorem zi_174_20 : zat 174 20 21 (.iconst 0) [] := zat_of zP_174 rfl
theorem zi_174_21 : zat 174 21 22 (.istore 5) [] := zat_of zP_174 rfl
theorem zi_174_22 : zat 174 22 23 (.iload 5) [] := zat_of zP_174 rfl
theorem zi_174_23 : zat 174 23 24 (.aload_n 0) [] := zat_of zP_174 rfl
theorem zi_174_24 : zat 174 24 25 (.getfield 94) [4, 4, 681] := zat_of zP_174 rfl
theorem zi_174_25 : zat 174 25 26 (.if_icmp .ge 92) [85] := zat_of zP_174 rfl
theorem zi_174_26 : zat 174 26 27 (.aload_n 0) [] := zat_of zP_174 rfl
theorem zi_174_27 : zat 174 27 28 (.getfield 13) [4, 2, 679] := zat_of zP_174 rfl
theorem zi_174_28 : zat 174 28 29 (.iload 5) [] := zat_of zP_174 rfl
theorem zi_174_29 : zat 174 29 30 (.iaload) [] := zat_of zP_174 rfl
theorem zi_174_30 : zat 174 30 31 (.istore 6) [] := zat_of zP_174 rfl
theorem zi_174_31 : zat 174 31 32 (.aload_n 0) [] := zat_of zP_174 rfl
theorem zi_174_32 : zat 174 32 33 (.getfield 59) [4, 23, 700] := zat_of zP_174 rfl
theorem zi_174_33 : zat 174 33 34 (.bipush 24) [] := zat_of zP_174 rfl
theorem zi_174_34 : zat 174 34 35 (.iload_n 1) [] := zat_of zP_174 rfl
theorem zi_174_35 : zat 174 35 36 (.imul) [] := zat_of zP_174 rfl
theorem zi_174_36 : zat 174 36 37 (.iload_n 3) [] := zat_of zP_174 rfl
theorem zi_174_37 : zat 174 37 38 (.iadd) [] := zat_of zP_174 rfl
theorem zi_174_38 : zat 174 38 39 (.iconst 2) [] := zat_of zP_174 rfl
theorem zi_174_39 : zat 174 39 40 (.iload 5) [] := zat_of zP_174 rfl
theorem zi_174_40 : zat 174 40 41 (.imul) [] := zat_of zP_174 rfl
theorem zi_174_41 : zat 174 41 42 (.iadd) [] := zat_of zP_174 rfl
theorem zi_174_42 : zat 174 42 43 (.aload_n 0) [] := zat_of zP_174 rfl
theorem zi_174_43 : zat 174 43 44 (.getfield 7) [4, 0, 677] := zat_of zP_174 rfl
theorem zi_174_44 : zat 174 44 45 (.bipush 6) [] := zat_of zP_174 rfl
theorem zi_174_45 : zat 174 45 46 (.iload 6) [] := zat_of zP_174 rfl
theorem zi_174_46 : zat 174 46 47 (.imul) [] := zat_of zP_174 rfl
theorem zi_174_47 : zat 174 47 48 (.iconst 3) [] := zat_of zP_174 rfl
theorem zi_174_48 : zat 174 48 49 (.iadd) [] := zat_of zP_174 rfl
theorem zi_174_49 : zat 174 49 50 (.aload_n 0) [] := zat_of zP_174 rfl
theorem zi_174_50 : zat 174 50 51 (.getfield 16) [4, 3, 680] := zat_of zP_174 rfl
theorem zi_174_51 : zat 174 51 52 (.iload 5) [] := zat_of zP_174 rfl
theorem zi_174_52 : zat 174 52 53 (.iaload) [] := zat_of zP_174 rfl
theorem zi_174_53 : zat 174 53 54 (.iadd) [] := zat_of zP_174 rfl
theorem zi_174_54 : zat 174 54 55 (.iaload) [] := zat_of zP_174 rfl
theorem zi_174_55 : zat 174 55 56 (.iastore) [] := zat_of zP_174 rfl
theorem zi_174_56 : zat 174 56 57 (.aload_n 0) [] := zat_of zP_174 rfl
theorem zi_174_57 : zat 174 57 58 (.getfield 59) [4, 23, 700] := zat_of zP_174 rfl
theorem zi_174_58 : zat 174 58 59 (.bipush 24) [] := zat_of zP_174 rfl
theorem zi_174_59 : zat 174 59 60 (.iload_n 1) [] := zat_of zP_174 rfl
theorem zi_174_60 : zat 174 60 61 (.imul) [] := zat_of zP_174 rfl
theorem zi_174_61 : zat 174 61 62 (.iload_n 3) [] := zat_of zP_174 rfl
theorem zi_174_62 : zat 174 62 63 (.iadd) [] := zat_of zP_174 rfl
theorem zi_174_63 : zat 174 63 64 (.iconst 2) [] := zat_of zP_174 rfl
theorem zi_174_64 : zat 174 64 65 (.iload 5) [] := zat_of zP_174 rfl
theorem zi_174_65 : zat 174 65 66 (.imul) [] := zat_of zP_174 rfl
theorem zi_174_66 : zat 174 66 67 (.iadd) [] := zat_of zP_174 rfl
theorem zi_174_67 : zat 174 67 68 (.iconst 1) [] := zat_of zP_174 rfl
theorem zi_174_68 : zat 174 68 69 (.iadd) [] := zat_of zP_174 rfl
theorem zi_174_69 : zat 174 69 70 (.aload_n 0) [] := zat_of zP_174 rfl
theorem zi_174_70 : zat 174 70 71 (.getfield 7) [4, 0, 677] := zat_of zP_174 rfl
theorem zi_174_71 : zat 174 71 72 (.bipush 6) [] := zat_of zP_174 rfl
theorem zi_174_72 : zat 174 72 73 (.iload 6) [] := zat_of zP_174 rfl
theorem zi_174_73 : zat 174 73 74 (.imul) [] := zat_of zP_174 rfl
theorem zi_174_74 : zat 174 74 75 (.iconst 4) [] := zat_of zP_174 rfl
theorem zi_174_75 : zat 174 75 76 (.iadd) [] := zat_of zP_174 rfl
theorem zi_174_76 : zat 174 76 77 (.aload_n 0) [] := zat_of zP_174 rfl
theorem zi_174_77 : zat 174 77 78 (.getfield 16) [4, 3, 680] := zat_of zP_174 rfl
theorem zi_174_78 : zat 174 78 79 (.iload 5) [] := zat_of zP_174 rfl
theorem zi_174_79 : zat 174 79 80 (.iaload) [] := zat_of zP_174 rfl
theorem zi_174_80 : zat 174 80 81 (.isub) [] := zat_of zP_174 rfl
theorem zi_174_81 : zat 174 81 82 (.iaload) [] := zat_of zP_174 rfl
theorem zi_174_82 : zat 174 82 83 (.iastore) [] := zat_of zP_174 rfl
theorem zi_174_83 : zat 174 83 84 (.iinc 5 1) [] := zat_of zP_174 rfl
theorem zi_174_84 : zat 174 84 85 (.goto (-95)) [22] := zat_of zP_174 rfl
theorem zi_174_85 : zat 174 85 86 (.iconst 2) [] := zat_of zP_174 rfl
theorem zi_174_86 : zat 174 86 87 (.aload_n 0) [] := zat_of zP_174 rfl
theorem zi_174_87 : zat 174 87 88 (.getfield 94) [4, 4, 681] := zat_of zP_174 rfl
theorem zi_174_88 : zat 174 88 89 (.imul) [] := zat_of zP_174 rfl
theorem zi_174_89 : zat 174 89 90 (.ireturn) [] := zat_of zP_174 rfl
theorem zP_175 : zP 175 = zk_175 := rfl
theorem zi_175_0 : zat 175 0 1 (.iload_n 0) [] := zat_of zP_175 rfl
theorem zi_175_1 : zat 175 1 2 (.iload_n 0) [] := zat_of zP_175 rfl
theorem zi_175_2 : zat 175 2 3 (.iconst 1) [] := zat_of zP_175 rfl
theorem zi_175_3 : zat 175 3 4 (.iushr) [] := zat_of zP_175 rfl
theorem zi_175_4 : zat 175 4 5 (.ldc_w 265) [1431655765, 0, 604] := zat_of zP_175 rfl
theorem zi_175_5 : zat 175 5 6 (.iand) [] := zat_of zP_175 rfl
theorem zi_175_6 : zat 175 6 7 (.isub) [] := zat_of zP_175 rfl
theorem zi_175_7 : zat 175 7 8 (.istore_n 0) [] := zat_of zP_175 rfl
theorem zi_175_8 : zat 175 8 9 (.iload_n 0) [] := zat_of zP_175 rfl
theorem zi_175_9 : zat 175 9 10 (.ldc_w 266) [858993459, 0, 605] := zat_of zP_175 rfl
theorem zi_175_10 : zat 175 10 11 (.iand) [] := zat_of zP_175 rfl
theorem zi_175_11 : zat 175 11 12 (.iload_n 0) [] := zat_of zP_175 rfl
theorem zi_175_12 : zat 175 12 13 (.iconst 2) [] := zat_of zP_175 rfl
theorem zi_175_13 : zat 175 13 14 (.iushr) [] := zat_of zP_175 rfl
theorem zi_175_14 : zat 175 14 15 (.ldc_w 266) [858993459, 0, 605] := zat_of zP_175 rfl
theorem zi_175_15 : zat 175 15 16 (.iand) [] := zat_of zP_175 rfl
theorem zi_175_16 : zat 175 16 17 (.iadd) [] := zat_of zP_175 rfl
theorem zi_175_17 : zat 175 17 18 (.istore_n 0) [] := zat_of zP_175 rfl
theorem zi_175_18 : zat 175 18 19 (.iload_n 0) [] := zat_of zP_175 rfl
theorem zi_175_19 : zat 175 19 20 (.iload_n 0) [] := zat_of zP_175 rfl
theorem zi_175_20 : zat 175 20 21 (.iconst 4) [] := zat_of zP_175 rfl
theorem zi_175_21 : zat 175 21 22 (.iushr) [] := zat_of zP_175 rfl
theorem zi_175_22 : zat 175 22 23 (.iadd) [] := zat_of zP_175 rfl
theorem zi_175_23 : zat 175 23 24 (.ldc_w 267) [252645135, 0, 606] := zat_of zP_175 rfl
theorem zi_175_24 : zat 175 24 25 (.iand) [] := zat_of zP_175 rfl
theorem zi_175_25 : zat 175 25 26 (.istore_n 0) [] := zat_of zP_175 rfl
theorem zi_175_26 : zat 175 26 27 (.iload_n 0) [] := zat_of zP_175 rfl
theorem zi_175_27 : zat 175 27 28 (.iload_n 0) [] := zat_of zP_175 rfl
theorem zi_175_28 : zat 175 28 29 (.bipush 8) [] := zat_of zP_175 rfl
theorem zi_175_29 : zat 175 29 30 (.iushr) [] := zat_of zP_175 rfl
theorem zi_175_30 : zat 175 30 31 (.iadd) [] := zat_of zP_175 rfl
theorem zi_175_31 : zat 175 31 32 (.istore_n 0) [] := zat_of zP_175 rfl
theorem zi_175_32 : zat 175 32 33 (.iload_n 0) [] := zat_of zP_175 rfl
theorem zi_175_33 : zat 175 33 34 (.iload_n 0) [] := zat_of zP_175 rfl
theorem zi_175_34 : zat 175 34 35 (.bipush 16) [] := zat_of zP_175 rfl
theorem zi_175_35 : zat 175 35 36 (.iushr) [] := zat_of zP_175 rfl
theorem zi_175_36 : zat 175 36 37 (.iadd) [] := zat_of zP_175 rfl
theorem zi_175_37 : zat 175 37 38 (.istore_n 0) [] := zat_of zP_175 rfl
theorem zi_175_38 : zat 175 38 39 (.iload_n 0) [] := zat_of zP_175 rfl
theorem zi_175_39 : zat 175 39 40 (.bipush 63) [] := zat_of zP_175 rfl
theorem zi_175_40 : zat 175 40 41 (.iand) [] := zat_of zP_175 rfl
theorem zi_175_41 : zat 175 41 42 (.ireturn) [] := zat_of zP_175 rfl
theorem zP_176 : zP 176 = zk_176 := rfl
theorem zi_176_0 : zat 176 0 1 (.iload_n 0) [] := zat_of zP_176 rfl
theorem zi_176_1 : zat 176 1 2 (.iload_n 1) [] := zat_of zP_176 rfl
theorem zi_176_2 : zat 176 2 3 (.irem) [] := zat_of zP_176 rfl
theorem zi_176_3 : zat 176 3 4 (.istore_n 2) [] := zat_of zP_176 rfl
theorem zi_176_4 : zat 176 4 5 (.iload_n 0) [] := zat_of zP_176 rfl
theorem zi_176_5 : zat 176 5 6 (.iload_n 1) [] := zat_of zP_176 rfl
theorem zi_176_6 : zat 176 6 7 (.ixor) [] := zat_of zP_176 rfl
theorem zi_176_7 : zat 176 7 8 (.ifCond .ge 11) [14] := zat_of zP_176 rfl
theorem zi_176_8 : zat 176 8 9 (.iload_n 2) [] := zat_of zP_176 rfl
theorem zi_176_9 : zat 176 9 10 (.ifCond .eq 7) [14] := zat_of zP_176 rfl
theorem zi_176_10 : zat 176 10 11 (.iload_n 2) [] := zat_of zP_176 rfl
theorem zi_176_11 : zat 176 11 12 (.iload_n 1) [] := zat_of zP_176 rfl
theorem zi_176_12 : zat 176 12 13 (.iadd) [] := zat_of zP_176 rfl
theorem zi_176_13 : zat 176 13 14 (.ireturn) [] := zat_of zP_176 rfl
theorem zi_176_14 : zat 176 14 15 (.iload_n 2) [] := zat_of zP_176 rfl
theorem zi_176_15 : zat 176 15 16 (.ireturn) [] := zat_of zP_176 rfl
theorem zP_177 : zP 177 = zk_177 := rfl
theorem zi_177_0 : zat 177 0 1 (.iload_n 0) [] := zat_of zP_177 rfl
theorem zi_177_1 : zat 177 1 2 (.ifCond .ge 8) [5] := zat_of zP_177 rfl
theorem zi_177_2 : zat 177 2 3 (.iload_n 0) [] := zat_of zP_177 rfl
theorem zi_177_3 : zat 177 3 4 (.ineg) [] := zat_of zP_177 rfl
theorem zi_177_4 : zat 177 4 5 (.goto 4) [6] := zat_of zP_177 rfl
theorem zi_177_5 : zat 177 5 6 (.iload_n 0) [] := zat_of zP_177 rfl
theorem zi_177_6 : zat 177 6 7 (.ireturn) [] := zat_of zP_177 rfl
theorem zP_178 : zP 178 = zk_178 := rfl
theorem zi_178_0 : zat 178 0 1 (.iload_n 0) [] := zat_of zP_178 rfl
theorem zi_178_1 : zat 178 1 2 (.iload_n 1) [] := zat_of zP_178 rfl
theorem zi_178_2 : zat 178 2 3 (.if_icmp .lt 7) [5] := zat_of zP_178 rfl
theorem zi_178_3 : zat 178 3 4 (.iload_n 0) [] := zat_of zP_178 rfl
theorem zi_178_4 : zat 178 4 5 (.goto 4) [6] := zat_of zP_178 rfl
theorem zi_178_5 : zat 178 5 6 (.iload_n 1) [] := zat_of zP_178 rfl
theorem zi_178_6 : zat 178 6 7 (.ireturn) [] := zat_of zP_178 rfl
theorem zP_179 : zP 179 = zk_179 := rfl
theorem zi_179_0 : zat 179 0 1 (.iload_n 0) [] := zat_of zP_179 rfl
theorem zi_179_1 : zat 179 1 2 (.iload_n 1) [] := zat_of zP_179 rfl
theorem zi_179_2 : zat 179 2 3 (.if_icmp .gt 7) [5] := zat_of zP_179 rfl
theorem zi_179_3 : zat 179 3 4 (.iload_n 0) [] := zat_of zP_179 rfl
theorem zi_179_4 : zat 179 4 5 (.goto 4) [6] := zat_of zP_179 rfl
theorem zi_179_5 : zat 179 5 6 (.iload_n 1) [] := zat_of zP_179 rfl
theorem zi_179_6 : zat 179 6 7 (.ireturn) [] := zat_of zP_179 rfl
end
section
/-! the class: the smallest methods; a table's, a sheet's fields -/
theorem z_loc {d m i : Nat} {lv lv' : List (Nat × Value)} {st : List Value} {t : zMI} {Q : Option Value → zMI → Prop} (h : lv'.map (fun q => zg lv q.1) = lv'.map (fun q => some q.2)) (k : ZX d m i lv' st t Q) : ZX d m i lv st t Q := fun Z hZ hW => hW _ _ _ _ _ _ _ _ (fun q hq => by
  obtain ⟨n, hn⟩ := List.getElem?_of_mem hq
  have h1 := congrArg (fun l => l[n]?) h
  simp only [List.getElem?_map, hn, Option.map_some] at h1
  exact zg_mem (Option.some.inj h1)) (k Z hZ hW)
def zTa (T : Nat) : Prop := T = 1 ∨ T = 10 ∨ T = 19 ∨ T = 28
def zSh (S : Nat) : Prop := S = 40 ∨ S = 42 ∨ S = 44 ∨ S = 46
theorem zt_f0 {T : Nat} {t : zMI} (h : zTa T) : zf (zlf t) T 1 0 = some (.int (zi (t T 0))) := by rcases h with rfl | rfl | rfl | rfl <;> rfl
theorem zt_f1 {T : Nat} {t : zMI} (h : zTa T) : zf (zlf t) T 1 1 = some (.ref (T + 1)) := by rcases h with rfl | rfl | rfl | rfl <;> rfl
theorem zt_f2 {T : Nat} {t : zMI} (h : zTa T) : zf (zlf t) T 1 2 = some (.ref (T + 2)) := by rcases h with rfl | rfl | rfl | rfl <;> rfl
theorem zt_f3 {T : Nat} {t : zMI} (h : zTa T) : zf (zlf t) T 1 3 = some (.ref (T + 3)) := by rcases h with rfl | rfl | rfl | rfl <;> rfl
theorem zt_f4 {T : Nat} {t : zMI} (h : zTa T) : zf (zlf t) T 1 4 = some (.ref (T + 4)) := by rcases h with rfl | rfl | rfl | rfl <;> rfl
theorem zt_f5 {T : Nat} {t : zMI} (h : zTa T) : zf (zlf t) T 1 5 = some (.ref (T + 5)) := by rcases h with rfl | rfl | rfl | rfl <;> rfl
theorem zt_f6 {T : Nat} {t : zMI} (h : zTa T) : zf (zlf t) T 1 6 = some (.ref (T + 6)) := by rcases h with rfl | rfl | rfl | rfl <;> rfl
theorem zt_f7 {T : Nat} {t : zMI} (h : zTa T) : zf (zlf t) T 1 7 = some (.int (zi (t T 7))) := by rcases h with rfl | rfl | rfl | rfl <;> rfl
theorem zt_f8 {T : Nat} {t : zMI} (h : zTa T) : zf (zlf t) T 1 8 = some (.ref (T + 7)) := by rcases h with rfl | rfl | rfl | rfl <;> rfl
theorem zt_f9 {T : Nat} {t : zMI} (h : zTa T) : zf (zlf t) T 1 9 = some (.int (zi (t T 9))) := by rcases h with rfl | rfl | rfl | rfl <;> rfl
theorem zt_f10 {T : Nat} {t : zMI} (h : zTa T) : zf (zlf t) T 1 10 = some (.ref (T + 8)) := by rcases h with rfl | rfl | rfl | rfl <;> rfl
theorem zt_f11 {T : Nat} {t : zMI} (h : zTa T) : zf (zlf t) T 1 11 = some (.int (zi (t T 11))) := by rcases h with rfl | rfl | rfl | rfl <;> rfl
theorem zt_i0 {T : Nat} (h : zTa T) : zfi T 1 0 = true := by rcases h with rfl | rfl | rfl | rfl <;> rfl
theorem zt_i7 {T : Nat} (h : zTa T) : zfi T 1 7 = true := by rcases h with rfl | rfl | rfl | rfl <;> rfl
theorem zt_i9 {T : Nat} (h : zTa T) : zfi T 1 9 = true := by rcases h with rfl | rfl | rfl | rfl <;> rfl
theorem zt_i11 {T : Nat} (h : zTa T) : zfi T 1 11 = true := by rcases h with rfl | rfl | rfl | rfl <;> rfl
theorem zt_a1 {T : Nat} (h : zTa T) : zLy[T + 1]? = some (.inl 12) := by rcases h with rfl | rfl | rfl | rfl <;> rfl
theorem zt_a2 {T : Nat} (h : zTa T) : zLy[T + 2]? = some (.inl 24) := by rcases h with rfl | rfl | rfl | rfl <;> rfl
theorem zt_a3 {T : Nat} (h : zTa T) : zLy[T + 3]? = some (.inl 24) := by rcases h with rfl | rfl | rfl | rfl <;> rfl
theorem zt_a4 {T : Nat} (h : zTa T) : zLy[T + 4]? = some (.inl 12) := by rcases h with rfl | rfl | rfl | rfl <;> rfl
theorem zt_a5 {T : Nat} (h : zTa T) : zLy[T + 5]? = some (.inl 12) := by rcases h with rfl | rfl | rfl | rfl <;> rfl
theorem zt_a6 {T : Nat} (h : zTa T) : zLy[T + 6]? = some (.inl 12) := by rcases h with rfl | rfl | rfl | rfl <;> rfl
theorem zt_a7 {T : Nat} (h : zTa T) : zLy[T + 7]? = some (.inl 12) := by rcases h with rfl | rfl | rfl | rfl <;> rfl
theorem zt_a8 {T : Nat} (h : zTa T) : zLy[T + 8]? = some (.inl 2) := by rcases h with rfl | rfl | rfl | rfl <;> rfl
theorem zt_c {T : Nat} (h : zTa T) : zcls T = 1 := by rcases h with rfl | rfl | rfl | rfl <;> rfl
theorem zsh_f0 {S : Nat} {t : zMI} (h : zSh S) : zf (zlf t) S 0 0 = some (.ref (S + 1)) := by rcases h with rfl | rfl | rfl | rfl <;> rfl
theorem zsh_f1 {S : Nat} {t : zMI} (h : zSh S) : zf (zlf t) S 0 1 = some (.int (zi (t S 1))) := by rcases h with rfl | rfl | rfl | rfl <;> rfl
theorem zsh_f2 {S : Nat} {t : zMI} (h : zSh S) : zf (zlf t) S 0 2 = some (.int (zi (t S 2))) := by rcases h with rfl | rfl | rfl | rfl <;> rfl
theorem zsh_f3 {S : Nat} {t : zMI} (h : zSh S) : zf (zlf t) S 0 3 = some (.int (zi (t S 3))) := by rcases h with rfl | rfl | rfl | rfl <;> rfl
theorem zsh_i1 {S : Nat} (h : zSh S) : zfi S 0 1 = true := by rcases h with rfl | rfl | rfl | rfl <;> rfl
theorem zsh_i2 {S : Nat} (h : zSh S) : zfi S 0 2 = true := by rcases h with rfl | rfl | rfl | rfl <;> rfl
theorem zsh_i3 {S : Nat} (h : zSh S) : zfi S 0 3 = true := by rcases h with rfl | rfl | rfl | rfl <;> rfl
theorem zsh_a {S : Nat} (h : zSh S) : zLy[S + 1]? = some (.inl 24) := by rcases h with rfl | rfl | rfl | rfl <;> rfl
theorem zsh_c {S : Nat} (h : zSh S) : zcls S = 0 := by rcases h with rfl | rfl | rfl | rfl <;> rfl
theorem zup_s {t : zMI} {b n : Nat} {v : Int} : zup t b n v b n = v := by simp [zup]
theorem zup_n {t : zMI} {b n j : Nat} {v : Int} (h : j ≠ n) : zup t b n v b j = t b j := by simp [zup, h]
theorem zup_o {t : zMI} {b n k : Nat} {v : Int} (h : k ≠ b) : zup t b n v k = t k := by funext j; simp [zup, h]
theorem zup_at (t : zMI) (b n : Nat) (v : Int) (j : Nat) : zup t b n v b j = if j = n then v else t b j := by simp [zup]
theorem zcpi_o {t : zMI} {a b n k : Nat} (h : k ≠ b) : zcpi t a b n k = t k := by funext j; simp [zcpi, h]
theorem zcpi_s {t : zMI} {a b n j : Nat} (h : j < n) : zcpi t a b n b j = t a j := by simp [zcpi, h]
section
variable {d : Nat} {t : zMI} {K : Int → zMI → Prop} {Kv : zMI → Prop}
theorem s_within {a lo hi : Int} (ha : -2147483648 ≤ a ∧ a < 2147483648) (h1 : -2147483648 ≤ lo ∧ lo < 2147483648) (h2 : -2147483648 ≤ hi ∧ hi < 2147483648) (kt : lo ≤ a ∧ a ≤ hi → K 1 t) (kf : ¬ (lo ≤ a ∧ a ≤ hi) → K 0 t) : ZX d 93 0 [(0, .int (zi a)), (1, .int (zi lo)), (2, .int (zi hi))] [] t (zKi K) := by
  refine z_iload_n zi_93_0 rfl ?_
  refine z_iload_n zi_93_1 rfl ?_
  refine z_icmp_lt zi_93_2 (by omega) (fun c1 => ?_) (fun c1 => ?_)
  · refine z_iconst zi_93_8 ?_
    refine z_zreturn zi_93_9 rfl (by omega) (kf (by omega))
  · refine z_iload_n zi_93_3 rfl ?_
    refine z_iload_n zi_93_4 rfl ?_
    refine z_icmp_gt zi_93_5 (by omega) (fun c2 => ?_) (fun c2 => ?_)
    · refine z_iconst zi_93_8 ?_
      refine z_zreturn zi_93_9 rfl (by omega) (kf (by omega))
    · refine z_iconst zi_93_6 ?_
      refine z_goto zi_93_7 ?_
      refine z_zreturn zi_93_9 rfl (by omega) (kt (by omega))
theorem s_isTeeth {a : Int} (ha : -2147483648 ≤ a ∧ a < 2147483648) (kt : 3 ≤ a ∧ a ≤ 9 → K 1 t) (kf : ¬ (3 ≤ a ∧ a ≤ 9) → K 0 t) : ZX (d + 1) 94 0 [(0, .int (zi a))] [] t (zKi K) := by
  refine z_iload_n zi_94_0 rfl ?_
  refine z_iconst zi_94_1 ?_
  refine z_bipush zi_94_2 (by decide) ?_
  refine z_cs3i zi_94_3 rfl rfl rfl ⟨by decide, rfl, Nat.le_of_ble_eq_true rfl, Nat.le_of_ble_eq_true rfl⟩ (s_within ha (by omega) (by omega) (fun h => ?_) (fun h => ?_))
  · refine z_zreturn zi_94_4 rfl (by omega) (kt h)
  · refine z_zreturn zi_94_4 rfl (by omega) (kf h)
theorem s_isWheel {a : Int} (ha : -2147483648 ≤ a ∧ a < 2147483648) (kt : 0 ≤ a ∧ a ≤ 1 → K 1 t) (kf : ¬ (0 ≤ a ∧ a ≤ 1) → K 0 t) : ZX (d + 1) 95 0 [(0, .int (zi a))] [] t (zKi K) := by
  refine z_iload_n zi_95_0 rfl ?_
  refine z_iconst zi_95_1 ?_
  refine z_iconst zi_95_2 ?_
  refine z_cs3i zi_95_3 rfl rfl rfl ⟨by decide, rfl, Nat.le_of_ble_eq_true rfl, Nat.le_of_ble_eq_true rfl⟩ (s_within ha (by omega) (by omega) (fun h => ?_) (fun h => ?_))
  · refine z_zreturn zi_95_4 rfl (by omega) (kt h)
  · refine z_zreturn zi_95_4 rfl (by omega) (kf h)
theorem s_isHand {a : Int} (ha : -2147483648 ≤ a ∧ a < 2147483648) (kt : 0 ≤ a ∧ a ≤ 1 → K 1 t) (kf : ¬ (0 ≤ a ∧ a ≤ 1) → K 0 t) : ZX (d + 1) 96 0 [(0, .int (zi a))] [] t (zKi K) := by
  refine z_iload_n zi_96_0 rfl ?_
  refine z_iconst zi_96_1 ?_
  refine z_iconst zi_96_2 ?_
  refine z_cs3i zi_96_3 rfl rfl rfl ⟨by decide, rfl, Nat.le_of_ble_eq_true rfl, Nat.le_of_ble_eq_true rfl⟩ (s_within ha (by omega) (by omega) (fun h => ?_) (fun h => ?_))
  · refine z_zreturn zi_96_4 rfl (by omega) (kt h)
  · refine z_zreturn zi_96_4 rfl (by omega) (kf h)
theorem s_isLane {a : Int} (ha : -2147483648 ≤ a ∧ a < 2147483648) (kt : 0 ≤ a ∧ a ≤ 2 → K 1 t) (kf : ¬ (0 ≤ a ∧ a ≤ 2) → K 0 t) : ZX (d + 1) 97 0 [(0, .int (zi a))] [] t (zKi K) := by
  refine z_iload_n zi_97_0 rfl ?_
  refine z_iconst zi_97_1 ?_
  refine z_iconst zi_97_2 ?_
  refine z_cs3i zi_97_3 rfl rfl rfl ⟨by decide, rfl, Nat.le_of_ble_eq_true rfl, Nat.le_of_ble_eq_true rfl⟩ (s_within ha (by omega) (by omega) (fun h => ?_) (fun h => ?_))
  · refine z_zreturn zi_97_4 rfl (by omega) (kt h)
  · refine z_zreturn zi_97_4 rfl (by omega) (kf h)
theorem s_at {b N n : Nat} {a : Int} (hy : zLy[b]? = some (.inl N)) (hN : N < 1000) (ha : a = (n : Int)) (hn : n < N) (k : K (t b n) t) : ZX d 109 0 [(0, .ref b), (1, .int (zi a))] [] t (zKi K) := by
  refine z_iload_n zi_109_0 rfl ?_
  refine z_if_lt_f zi_109_1 (by omega) (by omega) ?_
  refine z_iload_n zi_109_2 rfl ?_
  refine z_aload_n zi_109_3 rfl ?_
  refine z_alen zi_109_4 hy ?_
  refine z_icmp_ge_f zi_109_5 (by omega) (by omega) ?_
  refine z_aload_n zi_109_6 rfl ?_
  refine z_iload_n zi_109_7 rfl ?_
  refine z_iaload (n := n) zi_109_8 hy (by omega) (by omega) (by omega) ?_
  refine z_goto zi_109_9 ?_
  refine z_ireturn zi_109_11 rfl k
theorem s_put {b N n : Nat} {a v : Int} (hy : zLy[b]? = some (.inl N)) (hN : N < 1000) (ha : a = (n : Int)) (hn : n < N) (k : Kv (zup t b n v)) : ZX d 110 0 [(0, .ref b), (1, .int (zi a)), (2, .int (zi v))] [] t (zKv Kv) := by
  refine z_iload_n zi_110_0 rfl ?_
  refine z_if_lt_f zi_110_1 (by omega) (by omega) ?_
  refine z_iload_n zi_110_2 rfl ?_
  refine z_aload_n zi_110_3 rfl ?_
  refine z_alen zi_110_4 hy ?_
  refine z_icmp_ge_f zi_110_5 (by omega) (by omega) ?_
  refine z_aload_n zi_110_6 rfl ?_
  refine z_iload_n zi_110_7 rfl ?_
  refine z_iload_n zi_110_8 rfl ?_
  refine z_iastore (n := n) zi_110_9 hy (by omega) (by omega) (by omega) ?_
  refine z_vreturn zi_110_10 rfl k
theorem s_abs {a : Int} (ha : -2147483648 < a ∧ a < 2147483648) (k : K (if 0 ≤ a then a else -a) t) : ZX d 177 0 [(0, .int (zi a))] [] t (zKi K) := by
  refine z_iload_n zi_177_0 rfl ?_
  refine z_if_ge zi_177_1 (by omega) (fun c => ?_) (fun c => ?_)
  · refine z_iload_n zi_177_5 rfl ?_
    rw [if_pos c] at k
    refine z_ireturn zi_177_6 rfl k
  · refine z_iload_n zi_177_2 rfl ?_
    refine z_ineg zi_177_3 ?_
    refine z_goto zi_177_4 ?_
    rw [if_neg c] at k
    refine z_ireturn zi_177_6 rfl k
theorem s_max {a b : Int} (h : (-2147483648 ≤ a ∧ a < 2147483648) ∧ (-2147483648 ≤ b ∧ b < 2147483648)) (k : K (if a < b then b else a) t) : ZX d 178 0 [(0, .int (zi a)), (1, .int (zi b))] [] t (zKi K) := by
  refine z_iload_n zi_178_0 rfl ?_
  refine z_iload_n zi_178_1 rfl ?_
  refine z_icmp_lt zi_178_2 (by omega) (fun c => ?_) (fun c => ?_)
  · refine z_iload_n zi_178_5 rfl ?_
    rw [if_pos c] at k
    refine z_ireturn zi_178_6 rfl k
  · refine z_iload_n zi_178_3 rfl ?_
    refine z_goto zi_178_4 ?_
    rw [if_neg c] at k
    refine z_ireturn zi_178_6 rfl k
theorem s_min {a b : Int} (h : (-2147483648 ≤ a ∧ a < 2147483648) ∧ (-2147483648 ≤ b ∧ b < 2147483648)) (k : K (if b < a then b else a) t) : ZX d 179 0 [(0, .int (zi a)), (1, .int (zi b))] [] t (zKi K) := by
  refine z_iload_n zi_179_0 rfl ?_
  refine z_iload_n zi_179_1 rfl ?_
  refine z_icmp_gt zi_179_2 (by omega) (fun c => ?_) (fun c => ?_)
  · refine z_iload_n zi_179_5 rfl ?_
    rw [if_pos c] at k
    refine z_ireturn zi_179_6 rfl k
  · refine z_iload_n zi_179_3 rfl ?_
    refine z_goto zi_179_4 ?_
    rw [if_neg c] at k
    refine z_ireturn zi_179_6 rfl k
theorem zxor_neg {a b : Int} (h : (-2147483648 ≤ a ∧ a < 2147483648) ∧ (0 ≤ b ∧ b < 2147483648)) : (zi a ^^^ zi b).toInt < 0 ↔ a < 0 := by
  have e1 : ∀ x : Int32, x.toInt < 0 ↔ x.toBitVec.msb = true := fun x => by
    rw [BitVec.msb_eq_toInt]
    exact (decide_eq_true_iff).symm
  rw [e1, Int32.toBitVec_xor, BitVec.msb_xor]
  have ha := e1 (zi a)
  have hb := e1 (zi b)
  rw [zi_toInt (by omega)] at ha hb
  cases h1 : (zi a).toBitVec.msb <;> cases h2 : (zi b).toBitVec.msb <;> simp [h1, h2] at ha hb ⊢ <;> omega
theorem zfm {x y : Int} (hy : 0 < y) : (if x < 0 ∧ ¬ x.tmod y = 0 then x.tmod y + y else x.tmod y) = x % y := by
  have e := Int.mul_tdiv_add_tmod x y
  have h1 := Int.tmod_lt_of_pos x hy
  have h2 := Int.lt_tmod_of_pos x hy
  have key : ∀ q r : Int, x = y * q + r → 0 ≤ r → r < y → r = x % y := fun q r hx h0 hr => by
    rw [hx, Int.add_comm, Int.add_mul_emod_self_left, Int.emod_eq_of_lt h0 hr]
  split
  · rename_i h
    have h3 : x.tmod y ≤ 0 := by
      rw [← Int.neg_neg x, Int.neg_tmod]
      have := Int.tmod_nonneg (a := -x) y (by omega)
      omega
    exact key (x.tdiv y - 1) _ (by rw [Int.mul_sub]; omega) (by omega) (by omega)
  · rename_i h
    refine key (x.tdiv y) _ (by omega) ?_ h1
    by_cases hx : x < 0
    · have : x.tmod y = 0 := by
        by_cases h3 : x.tmod y = 0
        · exact h3
        · exact absurd ⟨hx, h3⟩ h
      omega
    · exact Int.tmod_nonneg y (by omega)
theorem s_floorMod {x y : Int} (hx : -2147483648 < x ∧ x < 2147483648) (hy : 0 < y ∧ y < 2147483648) (k : K (x % y) t) : ZX d 176 0 [(0, .int (zi x)), (1, .int (zi y))] [] t (zKi K) := by
  rw [← zfm hy.1] at k
  have h1 := Int.tmod_lt_of_pos x hy.1
  have h2 := Int.lt_tmod_of_pos x hy.1
  refine z_iload_n zi_176_0 rfl ?_
  refine z_iload_n zi_176_1 rfl ?_
  refine z_irem zi_176_2 (by omega) ?_
  refine z_istore_n zi_176_3 rfl ?_
  refine z_iload_n zi_176_4 rfl ?_
  refine z_iload_n zi_176_5 rfl ?_
  refine z_ixor zi_176_6 (zi_of _).symm ?_
  have hr := zi_rng (zi x ^^^ zi y)
  have hs := zxor_neg (a := x) (b := y) (by omega)
  refine z_if_ge zi_176_7 (by omega) (fun c => ?_) (fun c => ?_)
  · refine z_iload_n zi_176_14 rfl ?_
    rw [if_neg (by omega)] at k
    refine z_ireturn zi_176_15 rfl k
  · refine z_iload_n zi_176_8 rfl ?_
    refine z_if_eq zi_176_9 (by omega) (fun c2 => ?_) (fun c2 => ?_)
    · refine z_iload_n zi_176_14 rfl ?_
      rw [if_neg (by omega)] at k
      refine z_ireturn zi_176_15 rfl k
    · refine z_iload_n zi_176_10 rfl ?_
      refine z_iload_n zi_176_11 rfl ?_
      refine z_iadd zi_176_12 ?_
      rw [if_pos (by omega)] at k
      refine z_ireturn zi_176_13 rfl k
theorem s_remainder {x y : Int} (hx : -2147483648 < x ∧ x < 2147483648) (hy : 0 < y ∧ y < 2147483648) (k : K (x % y) t) : ZX (d + 1) 48 0 [(0, .int (zi x)), (1, .int (zi y))] [] t (zKi K) := by
  refine z_iload_n zi_48_0 rfl ?_
  refine z_if_le_f zi_48_1 (by omega) (by omega) ?_
  refine z_iload_n zi_48_2 rfl ?_
  refine z_iload_n zi_48_3 rfl ?_
  refine z_cs2i zi_48_4 rfl rfl ⟨by decide, rfl, Nat.le_of_ble_eq_true rfl, Nat.le_of_ble_eq_true rfl⟩ (s_floorMod hx hy ?_)
  refine z_goto zi_48_5 ?_
  refine z_ireturn zi_48_7 rfl k
theorem s_copyRow {a b N : Nat} (ha : zLy[a]? = some (.inl N)) (hb : zLy[b]? = some (.inl N)) (hN : N < 1000) (k : Kv (zcpi t a b N)) : ZX (d + 1) 111 0 [(0, .ref a), (1, .ref b)] [] t (zKv Kv) := by
  refine z_aload_n zi_111_0 rfl ?_
  refine z_iconst zi_111_1 ?_
  refine z_aload_n zi_111_2 rfl ?_
  refine z_iconst zi_111_3 ?_
  refine z_aload_n zi_111_4 rfl ?_
  refine z_alen zi_111_5 ha ?_
  refine z_aload_n zi_111_6 rfl ?_
  refine z_alen zi_111_7 hb ?_
  refine z_cs2i zi_111_8 rfl rfl ⟨by decide, rfl, Nat.le_of_ble_eq_true rfl, Nat.le_of_ble_eq_true rfl⟩ (s_min (by omega) ?_)
  rw [if_neg (by omega)]
  refine z_copy zi_111_9 ha hb rfl (by omega) (Nat.le_of_ble_eq_true rfl) ?_
  refine z_vreturn zi_111_10 rfl k
end
end
section
/-! a game, as numbers: how many stones, how many lie, kinds, teeth, marks, hands, the row's stones and fronts, ring, scores, the draw -/
abbrev zG := Nat × Nat × (Nat → Int) × (Nat → Nat → Int) × (Nat → Nat → Int) × (Nat → Int) × (Nat → Nat) × (Nat → Nat) × Int × (Nat → Int) × Int
def gN (g : zG) : Nat := g.1
def gL (g : zG) : Nat := g.2.1
def gK (g : zG) : Nat → Int := g.2.2.1
def gT (g : zG) : Nat → Nat → Int := g.2.2.2.1
def gM (g : zG) : Nat → Nat → Int := g.2.2.2.2.1
def gH (g : zG) : Nat → Int := g.2.2.2.2.2.1
def gR (g : zG) : Nat → Nat := g.2.2.2.2.2.2.1
def gF (g : zG) : Nat → Nat := g.2.2.2.2.2.2.2.1
def gO (g : zG) : Int := g.2.2.2.2.2.2.2.2.1
def gS (g : zG) : Nat → Int := g.2.2.2.2.2.2.2.2.2.1
def gD (g : zG) : Int := g.2.2.2.2.2.2.2.2.2.2
def gsM (g : zG) (m : Nat → Nat → Int) : zG := (gN g, gL g, gK g, gT g, m, gH g, gR g, gF g, gO g, gS g, gD g)
def gsH (g : zG) (h : Nat → Int) : zG := (gN g, gL g, gK g, gT g, gM g, h, gR g, gF g, gO g, gS g, gD g)
def gsO (g : zG) (o : Int) : zG := (gN g, gL g, gK g, gT g, gM g, gH g, gR g, gF g, o, gS g, gD g)
def gsS (g : zG) (s : Nat → Int) : zG := (gN g, gL g, gK g, gT g, gM g, gH g, gR g, gF g, gO g, s, gD g)
def gsD (g : zG) (d : Int) : zG := (gN g, gL g, gK g, gT g, gM g, gH g, gR g, gF g, gO g, gS g, d)
def fup (f : Nat → Int) (k : Nat) (v : Int) : Nat → Int := fun j => if j = k then v else f j
def fup2 (f : Nat → Nat → Int) (k w : Nat) (v : Int) : Nat → Nat → Int := fun j u => if j = k ∧ u = w then v else f j u
def fupN (f : Nat → Nat) (k v : Nat) : Nat → Nat := fun j => if j = k then v else f j
/-- the last place of a row that a stone has -/
def gpl (R : Nat → Nat) : Nat → Nat → Option Nat
  | 0, _ => none
  | n + 1, s => if R n = s then some n else gpl R n s
def gP (g : zG) (s : Nat) : Option Nat := gpl (gR g) (gL g) s
def gPi (g : zG) (s : Nat) : Int := match gP g s with
  | some p => (p : Int)
  | none => -4
def gFi (g : zG) (s : Nat) : Int := match gP g s with
  | some p => (gF g p : Int)
  | none => -4
theorem gpl_some {R : Nat → Nat} {s p : Nat} : ∀ {n : Nat}, gpl R n s = some p → p < n ∧ R p = s
  | 0, h => by cases h
  | n + 1, h => by
    unfold gpl at h
    split at h
    · rename_i e
      cases h
      exact ⟨by omega, e⟩
    · have := gpl_some h
      exact ⟨by omega, this.2⟩
theorem gpl_none {R : Nat → Nat} {s : Nat} : ∀ {n : Nat}, gpl R n s = none → ∀ p, p < n → R p ≠ s
  | 0, _, p, hp => by omega
  | n + 1, h, p, hp => by
    unfold gpl at h
    split at h
    · cases h
    · rename_i e
      by_cases hpn : p = n
      · rw [hpn]; exact e
      · exact gpl_none h p (by omega)
theorem gpl_of_none {R : Nat → Nat} {s n : Nat} (h : ∀ p, p < n → R p ≠ s) : gpl R n s = none := by
  cases e : gpl R n s with
  | none => rfl
  | some p => exact absurd (gpl_some e).2 (h p (gpl_some e).1)
theorem gpl_at {R : Nat → Nat} {n p : Nat} (hi : ∀ p q, p < n → q < n → R p = R q → p = q) (hp : p < n) : gpl R n (R p) = some p := by
  cases e : gpl R n (R p) with
  | none => exact absurd rfl (gpl_none e p hp)
  | some q =>
    obtain ⟨h1, h2⟩ := gpl_some e
    rw [hi q p h1 hp h2]
theorem gpl_congr {R R' : Nat → Nat} {s : Nat} : ∀ {n : Nat}, (∀ p, p < n → R' p = R p) → gpl R' n s = gpl R n s
  | 0, _ => rfl
  | n + 1, h => by
    unfold gpl
    rw [h n (by omega), gpl_congr (fun p hp => h p (by omega))]
/-- what holds of every game -/
def gWF (g : zG) : Prop :=
  (gN g ≤ 12 ∧ gL g ≤ gN g) ∧ (∀ p, p < gL g → gR g p < gN g ∧ gF g p < 2) ∧ (∀ p q, p < gL g → q < gL g → gR g p = gR g q → p = q) ∧ (∀ s, s < gN g → 0 ≤ gK g s ∧ gK g s ≤ 3) ∧
  (∀ s w, s < gN g → w < 2 → 3 ≤ gT g s w ∧ gT g s w ≤ 9 ∧ 0 ≤ gM g s w ∧ gM g s w < gT g s w) ∧ (∀ s, s < gN g → gH g s = -4 ∨ gH g s = 0 ∨ gH g s = 1) ∧ ((gO g = 0 ∨ gO g = 1) ∧ (gO g = 1 → 3 ≤ gL g)) ∧ (0 ≤ gD g ∧ gD g < 2147483648)
/-- what lies in the row is in no hand -/
def gWH (g : zG) : Prop := ∀ p, p < gL g → gH g (gR g p) = -4
theorem gWF.n {g : zG} (h : gWF g) : gN g ≤ 12 ∧ gL g ≤ gN g := h.1
theorem gWF.r {g : zG} (h : gWF g) {p : Nat} (hp : p < gL g) : gR g p < gN g ∧ gF g p < 2 := h.2.1 p hp
theorem gWF.i {g : zG} (h : gWF g) : ∀ p q, p < gL g → q < gL g → gR g p = gR g q → p = q := h.2.2.1
theorem gWF.k {g : zG} (h : gWF g) {s : Nat} (hs : s < gN g) : 0 ≤ gK g s ∧ gK g s ≤ 3 := h.2.2.2.1 s hs
theorem gWF.t {g : zG} (h : gWF g) {s w : Nat} (hs : s < gN g) (hw : w < 2) : 3 ≤ gT g s w ∧ gT g s w ≤ 9 ∧ 0 ≤ gM g s w ∧ gM g s w < gT g s w := h.2.2.2.2.1 s w hs hw
theorem gWF.h {g : zG} (h : gWF g) {s : Nat} (hs : s < gN g) : gH g s = -4 ∨ gH g s = 0 ∨ gH g s = 1 := h.2.2.2.2.2.1 s hs
theorem gWF.o {g : zG} (h : gWF g) : (gO g = 0 ∨ gO g = 1) ∧ (gO g = 1 → 3 ≤ gL g) := h.2.2.2.2.2.2.1
theorem gWF.d {g : zG} (h : gWF g) : 0 ≤ gD g ∧ gD g < 2147483648 := h.2.2.2.2.2.2.2
theorem gPi_at {g : zG} (h : gWF g) {p : Nat} (hp : p < gL g) : gP g (gR g p) = some p := gpl_at h.i hp
theorem gP_some {g : zG} {s p : Nat} (h : gP g s = some p) : p < gL g ∧ gR g p = s := gpl_some h
theorem gPi_rng {g : zG} (h : gWF g) (s : Nat) : gPi g s = -4 ∨ (0 ≤ gPi g s ∧ gPi g s < 12) := by
  unfold gPi
  cases e : gP g s with
  | none => exact Or.inl rfl
  | some p =>
    have h1 := (gP_some e).1
    have h2 := h.n
    right
    constructor <;> dsimp only <;> omega
theorem gFi_rng {g : zG} (h : gWF g) (s : Nat) : gFi g s = -4 ∨ gFi g s = 0 ∨ gFi g s = 1 := by
  unfold gFi
  cases e : gP g s with
  | none => exact Or.inl rfl
  | some p =>
    have h1 := (h.r (gP_some e).1).2
    right
    dsimp only
    omega
/-- the way of the front at a place, if the first front goes forward -/
def gwA (k : Nat → Int) (R : Nat → Nat) : Nat → Int
  | 0 => 1
  | i + 1 => if k (R i) = 2 then -(gwA k R i) else gwA k R i
def gA (g : zG) (i : Nat) : Int := gwA (gK g) (gR g) i
def gB (g : zG) (i : Nat) : Int := -(gA g (i + 1))
theorem gwA_pm {k : Nat → Int} {R : Nat → Nat} : ∀ i, gwA k R i = 1 ∨ gwA k R i = -1
  | 0 => Or.inl rfl
  | i + 1 => by
    unfold gwA
    have := gwA_pm (k := k) (R := R) i
    split <;> omega
theorem gA_pm (g : zG) (i : Nat) : gA g i = 1 ∨ gA g i = -1 := gwA_pm i
theorem gB_pm (g : zG) (i : Nat) : gB g i = 1 ∨ gB g i = -1 := by
  have := gA_pm g (i + 1)
  unfold gB
  omega
theorem gA_0 (g : zG) : gA g 0 = 1 := rfl
theorem gA_s (g : zG) (i : Nat) : gA g (i + 1) = -(gB g i) := by
  unfold gB
  omega
theorem gB_eq (g : zG) (i : Nat) : gB g i = if gK g (gR g i) = 2 then gA g i else -(gA g i) := by
  unfold gB
  show -(gwA (gK g) (gR g) (i + 1)) = _
  unfold gwA
  show -(if gK g (gR g i) = 2 then -(gA g i) else gA g i) = _
  split <;> omega
/-- the marks behind a turn of the first n places -/
def gtm (g : zG) (b : Int) (n : Nat) : Nat → Nat → Int := fun s w => match gpl (gR g) n s with
  | some p => (gM g s w + b * (if w = gF g p then gA g p else gB g p)) % gT g s w
  | none => gM g s w
def gturn (g : zG) (b : Int) : zG := gsM g (gtm g b (gL g))
theorem gtm_step (g : zG) (b : Int) (p s w : Nat) : gtm g b (p + 1) s w = if s = gR g p then (gM g s w + b * (if w = gF g p then gA g p else gB g p)) % gT g s w else gtm g b p s w := by
  unfold gtm
  show (match (if gR g p = s then some p else gpl (gR g) p s) with | some p => _ | none => _) = _
  by_cases h : s = gR g p
  · rw [if_pos h.symm, if_pos h]
  · rw [if_neg (fun q => h q.symm), if_neg h]
theorem gtm_new {g : zG} (hw : gWF g) {b : Int} {p w : Nat} (hp : p < gL g) : gtm g b p (gR g p) w = gM g (gR g p) w := by
  unfold gtm
  rw [gpl_of_none]
  intro q hq e
  have := hw.i q p (by omega) hp e
  omega
theorem gtm_wf {g : zG} (hw : gWF g) (b : Int) (n : Nat) {s w : Nat} (hs : s < gN g) (hu : w < 2) : 0 ≤ gtm g b n s w ∧ gtm g b n s w < gT g s w := by
  have h := hw.t hs hu
  unfold gtm
  split
  · exact ⟨Int.emod_nonneg _ (by omega), Int.emod_lt_of_pos _ (by omega)⟩
  · exact ⟨h.2.2.1, h.2.2.2⟩
theorem gturn_wf {g : zG} (h : gWF g) (b : Int) : gWF (gturn g b) :=
  ⟨h.1, h.2.1, h.2.2.1, h.2.2.2.1, fun s w hs hw => ⟨(h.t hs hw).1, (h.t hs hw).2.1, (gtm_wf h b _ hs hw).1, (gtm_wf h b _ hs hw).2⟩, h.2.2.2.2.2.1, h.2.2.2.2.2.2.1, h.2.2.2.2.2.2.2⟩
/-- the last place below n that a turn this way would drive backward -/
def glk (g : zG) (way : Int) : Nat → Option Nat
  | 0 => none
  | n + 1 => if (gK g (gR g n) = 1 ∨ gK g (gR g n) = 3) ∧ (way * gA g n < 0 ∨ way * gB g n < 0) then some n else glk g way n
theorem glk_lt {g : zG} {way : Int} {p : Nat} : ∀ {n : Nat}, glk g way n = some p → p < n
  | 0, h => by cases h
  | n + 1, h => by
    unfold glk at h
    split at h
    · cases h; omega
    · have := glk_lt h
      omega
def gLk (g : zG) (way : Int) : Int := if gO g = 1 ∧ gB g (gL g - 1) = 1 then 1 else match glk g way (gL g) with
  | some p => 2 + (gR g p : Int)
  | none => 0
theorem gLk_rng {g : zG} (h : gWF g) (way : Int) : 0 ≤ gLk g way ∧ gLk g way < 14 := by
  unfold gLk
  split
  · omega
  · split
    · rename_i p e
      have h1 := (h.r (glk_lt e)).1
      have h2 := h.n
      omega
    · omega
def gpre (g : zG) : zG := if gL g = 0 then g else if gLk g (gB g (gL g - 1)) = 0 then gturn g (gB g (gL g - 1)) else g
def gapp (g : zG) (s f : Nat) : zG := (gN g, gL g + 1, gK g, gT g, gM g, gH g, fupN (gR g) (gL g) s, fupN (gF g) (gL g) f, gO g, gS g, gD g)
def gup (g : zG) : Nat → Int
  | 0 => 0
  | n + 1 => gup g n + ((if gM g (gR g n) 0 = 0 then 1 else 0) + (if gM g (gR g n) 1 = 0 then 1 else 0))
def ghv (g : zG) : Nat → Int
  | 0 => 0
  | n + 1 => ghv g n + (if gK g (gR g n) = 3 then 1 else 0)
theorem gup_rng (g : zG) : ∀ n : Nat, 0 ≤ gup g n ∧ gup g n ≤ 2 * n
  | 0 => by unfold gup; omega
  | n + 1 => by
    have := gup_rng g n
    unfold gup
    split <;> split <;> omega
theorem ghv_rng (g : zG) : ∀ n : Nat, 0 ≤ ghv g n ∧ ghv g n ≤ n
  | 0 => by unfold ghv; omega
  | n + 1 => by
    have := ghv_rng g n
    unfold ghv
    split <;> omega
def gsc (g : zG) : Int := if gL g < 2 ∨ gup g (gL g) < 2 * (gL g : Int) then 0 else (gL g : Int) + ghv g (gL g)
def gput (g : zG) (s f : Nat) : zG := gapp (gpre g) s f
/-- a lay: the stone leaves its hand, which has the score -/
def glay (g : zG) (s f : Nat) : zG := gsH (gsS (gput g s f) (fun h => if gH g s = (h : Int) then gS g h + gsc (gput g s f) else gS g h)) (fup (gH g) s (-4))
abbrev gfit (g : zG) (s f : Nat) : Prop := gL g = 0 ∨ (-1 ≤ gT g s f - gT g (gR g (gL g - 1)) (1 - gF g (gL g - 1)) ∧ gT g s f - gT g (gR g (gL g - 1)) (1 - gF g (gL g - 1)) ≤ 1)
def gtake (g : zG) (n : Nat) : zG := (gN g, gL g - n, gK g, gT g, gM g, gH g, gR g, gF g, 0, gS g, gD g)
theorem gpre_wf {g : zG} (h : gWF g) : gWF (gpre g) := by
  unfold gpre
  split
  · exact h
  · split
    · exact gturn_wf h _
    · exact h
theorem gpre_L (g : zG) : gL (gpre g) = gL g := by
  unfold gpre
  split
  · rfl
  · split <;> rfl
theorem gpre_N (g : zG) : gN (gpre g) = gN g := by
  unfold gpre
  split
  · rfl
  · split <;> rfl
theorem gpre_R (g : zG) : gR (gpre g) = gR g := by
  unfold gpre
  split
  · rfl
  · split <;> rfl
theorem gpre_H (g : zG) : gH (gpre g) = gH g := by
  unfold gpre
  split
  · rfl
  · split <;> rfl
theorem gpre_S (g : zG) : gS (gpre g) = gS g := by
  unfold gpre
  split
  · rfl
  · split <;> rfl
theorem gpig : ∀ (n : Nat) (R : Nat → Nat), (∀ p, p < n + 1 → R p < n) → (∀ p q, p < n + 1 → q < n + 1 → R p = R q → p = q) → False
  | 0, R, hr, _ => by
    have := hr 0 (by omega)
    omega
  | n + 1, R, hr, hi => by
    refine gpig n (fun p => if R p = n then R (n + 1) else R p) (fun p hp => ?_) (fun p q hp hq e => ?_)
    · have h1 := hr p (by omega)
      have h2 := hr (n + 1) (by omega)
      split
      · rename_i e
        have h3 : R (n + 1) ≠ n := fun e2 => by
          have := hi p (n + 1) (by omega) (by omega) (by rw [e, e2])
          omega
        omega
      · omega
    · split at e <;> split at e
      · rename_i e1 e2
        exact hi p q (by omega) (by omega) (by rw [e1, e2])
      · have := hi (n + 1) q (by omega) (by omega) e
        omega
      · have := hi p (n + 1) (by omega) (by omega) e
        omega
      · exact hi p q (by omega) (by omega) e
/-- n different numbers below n are all of them -/
theorem gfull (n : Nat) (R : Nat → Nat) (hr : ∀ p, p < n → R p < n) (hi : ∀ p q, p < n → q < n → R p = R q → p = q) (s : Nat) (hs : s < n) (hn : ∀ p, p < n → R p ≠ s) : False := by
  refine gpig n (fun p => if p = n then s else R p) (fun p hp => ?_) (fun p q hp hq e => ?_)
  · split
    · exact hs
    · exact hr p (by omega)
  · split at e <;> split at e
    · omega
    · exact absurd e.symm (hn q (by omega))
    · exact absurd e (hn p (by omega))
    · exact hi p q (by omega) (by omega) e
theorem gapp_wf {g : zG} (h : gWF g) {s f : Nat} (hs : s < gN g) (hf : f < 2) (hn : ∀ p, p < gL g → gR g p ≠ s) (ho : gO g = 0) : gWF (gapp g s f) := by
  have hlt : gL g < gN g := by
    rcases Nat.lt_or_ge (gL g) (gN g) with q | q
    · exact q
    · exact absurd (gfull (gN g) (gR g) (fun p hp => (h.r (by omega)).1) (fun p q' hp hq => h.i p q' (by omega) (by omega)) s hs (fun p hp => hn p (by omega))) id
  refine ⟨⟨h.n.1, hlt⟩, fun p hp => ?_, fun p q hp hq e => ?_, h.2.2.2.1, h.2.2.2.2.1, h.2.2.2.2.2.1, ⟨h.o.1, fun e => ?_⟩, h.2.2.2.2.2.2.2⟩
  · show fupN (gR g) (gL g) s p < gN g ∧ fupN (gF g) (gL g) f p < 2
    have hp' : p < gL g + 1 := hp
    unfold fupN
    by_cases e : p = gL g
    · rw [if_pos e, if_pos e]
      exact ⟨hs, hf⟩
    · rw [if_neg e, if_neg e]
      exact h.r (by omega)
  · have hp' : p < gL g + 1 := hp
    have hq' : q < gL g + 1 := hq
    have e' : fupN (gR g) (gL g) s p = fupN (gR g) (gL g) s q := e
    unfold fupN at e'
    by_cases e1 : p = gL g <;> by_cases e2 : q = gL g
    · omega
    · rw [if_pos e1, if_neg e2] at e'
      exact absurd e'.symm (hn q (by omega))
    · rw [if_neg e1, if_pos e2] at e'
      exact absurd e' (hn p (by omega))
    · rw [if_neg e1, if_neg e2] at e'
      exact h.i p q (by omega) (by omega) e'
  · have e' : gO g = 1 := e
    omega
theorem gput_wf {g : zG} (h : gWF g) {s f : Nat} (hs : s < gN g) (hf : f < 2) (hn : ∀ p, p < gL g → gR g p ≠ s) (ho : gO g = 0) : gWF (gput g s f) := by
  refine gapp_wf (gpre_wf h) (by rw [gpre_N]; exact hs) hf (by rw [gpre_L, gpre_R]; exact hn) ?_
  unfold gpre
  split
  · exact ho
  · split <;> exact ho
end
section
/-! a table of the class holds a game -/
def zTB (T : Nat) (t : zMI) (g : zG) : Prop :=
  (t T 0 = (gN g : Int) ∧ t T 7 = (gL g : Int) ∧ t T 9 = gO g ∧ t T 11 = gD g) ∧ (∀ s, s < gN g → t (T + 1) s = gK g s ∧ t (T + 4) s = gH g s ∧ t (T + 5) s = gPi g s ∧ t (T + 6) s = gFi g s) ∧
  (∀ s w, s < gN g → w < 2 → t (T + 2) (2 * s + w) = gT g s w ∧ t (T + 3) (2 * s + w) = gM g s w) ∧ (∀ p, p < gL g → t (T + 7) p = (gR g p : Int)) ∧ (t (T + 8) 0 = gS g 0 ∧ t (T + 8) 1 = gS g 1)
theorem zTB.n {T : Nat} {t : zMI} {g : zG} (h : zTB T t g) : t T 0 = (gN g : Int) := h.1.1
theorem zTB.l {T : Nat} {t : zMI} {g : zG} (h : zTB T t g) : t T 7 = (gL g : Int) := h.1.2.1
theorem zTB.o {T : Nat} {t : zMI} {g : zG} (h : zTB T t g) : t T 9 = gO g := h.1.2.2.1
theorem zTB.d {T : Nat} {t : zMI} {g : zG} (h : zTB T t g) : t T 11 = gD g := h.1.2.2.2
theorem zTB.k {T : Nat} {t : zMI} {g : zG} (h : zTB T t g) {s : Nat} (hs : s < gN g) : t (T + 1) s = gK g s := (h.2.1 s hs).1
theorem zTB.h {T : Nat} {t : zMI} {g : zG} (h : zTB T t g) {s : Nat} (hs : s < gN g) : t (T + 4) s = gH g s := (h.2.1 s hs).2.1
theorem zTB.p {T : Nat} {t : zMI} {g : zG} (h : zTB T t g) {s : Nat} (hs : s < gN g) : t (T + 5) s = gPi g s := (h.2.1 s hs).2.2.1
theorem zTB.f {T : Nat} {t : zMI} {g : zG} (h : zTB T t g) {s : Nat} (hs : s < gN g) : t (T + 6) s = gFi g s := (h.2.1 s hs).2.2.2
theorem zTB.t {T : Nat} {t : zMI} {g : zG} (h : zTB T t g) {s w : Nat} (hs : s < gN g) (hw : w < 2) : t (T + 2) (2 * s + w) = gT g s w := (h.2.2.1 s w hs hw).1
theorem zTB.m {T : Nat} {t : zMI} {g : zG} (h : zTB T t g) {s w : Nat} (hs : s < gN g) (hw : w < 2) : t (T + 3) (2 * s + w) = gM g s w := (h.2.2.1 s w hs hw).2
theorem zTB.r {T : Nat} {t : zMI} {g : zG} (h : zTB T t g) {p : Nat} (hp : p < gL g) : t (T + 7) p = (gR g p : Int) := h.2.2.2.1 p hp
theorem zTB.s {T : Nat} {t : zMI} {g : zG} (h : zTB T t g) {w : Nat} (hw : w < 2) : t (T + 8) w = gS g w := by
  rcases (by omega : w = 0 ∨ w = 1) with rfl | rfl
  · exact h.2.2.2.2.1
  · exact h.2.2.2.2.2
def zFr (T : Nat) (t t' : zMI) : Prop := ∀ k, k < T ∨ T + 9 ≤ k → t' k = t k
theorem zFr.rf {T : Nat} {t : zMI} : zFr T t t := fun _ _ => rfl
theorem zFr.tr {T : Nat} {t t' t'' : zMI} (h : zFr T t t') (h' : zFr T t' t'') : zFr T t t'' := fun k hk => (h' k hk).trans (h k hk)
theorem zFr.up {T : Nat} {t t' : zMI} (h : zFr T t t') {b n : Nat} {v : Int} (hb : T ≤ b ∧ b < T + 9) : zFr T t (zup t' b n v) := fun k hk => (zup_o (by omega)).trans (h k hk)
theorem zTB_congr {T : Nat} {t t' : zMI} {g : zG} (h : zTB T t g) (e : ∀ k, T ≤ k → k < T + 9 → t' k = t k) : zTB T t' g := by
  unfold zTB
  rw [e T (by omega) (by omega), e (T + 1) (by omega) (by omega), e (T + 2) (by omega) (by omega), e (T + 3) (by omega) (by omega), e (T + 4) (by omega) (by omega), e (T + 5) (by omega) (by omega), e (T + 6) (by omega) (by omega), e (T + 7) (by omega) (by omega), e (T + 8) (by omega) (by omega)]
  exact h
theorem zTB_M {T : Nat} {t : zMI} {g : zG} (h : zTB T t g) {s w : Nat} (hw : w < 2) (v : Int) : zTB T (zup t (T + 3) (2 * s + w) v) (gsM g (fup2 (gM g) s w v)) := by
  unfold zTB
  rw [zup_o (by omega), zup_o (k := T + 1) (by omega), zup_o (k := T + 2) (by omega), zup_o (k := T + 4) (by omega), zup_o (k := T + 5) (by omega), zup_o (k := T + 6) (by omega), zup_o (k := T + 7) (by omega), zup_o (k := T + 8) (by omega)]
  refine ⟨h.1, h.2.1, fun s' w' hs' hw' => ⟨h.t hs' hw', ?_⟩, h.2.2.2.1, h.2.2.2.2⟩
  show zup t (T + 3) (2 * s + w) v (T + 3) (2 * s' + w') = fup2 (gM g) s w v s' w'
  rw [zup_at]
  unfold fup2
  by_cases e : s' = s ∧ w' = w
  · rw [if_pos e, if_pos (by omega)]
  · rw [if_neg e, if_neg (by omega)]
    exact h.m hs' hw'
theorem zTB_H {T : Nat} {t : zMI} {g : zG} (h : zTB T t g) (s : Nat) (v : Int) : zTB T (zup t (T + 4) s v) (gsH g (fup (gH g) s v)) := by
  unfold zTB
  rw [zup_o (by omega), zup_o (k := T + 1) (by omega), zup_o (k := T + 2) (by omega), zup_o (k := T + 3) (by omega), zup_o (k := T + 5) (by omega), zup_o (k := T + 6) (by omega), zup_o (k := T + 7) (by omega), zup_o (k := T + 8) (by omega)]
  refine ⟨h.1, fun s' hs' => ⟨h.k hs', ?_, h.p hs', h.f hs'⟩, h.2.2.1, h.2.2.2.1, h.2.2.2.2⟩
  show zup t (T + 4) s v (T + 4) s' = fup (gH g) s v s'
  rw [zup_at]
  unfold fup
  by_cases e : s' = s
  · rw [if_pos e, if_pos e]
  · rw [if_neg e, if_neg e]
    exact h.h hs'
theorem zTB_O {T : Nat} {t : zMI} {g : zG} (h : zTB T t g) (v : Int) : zTB T (zup t T 9 v) (gsO g v) := by
  unfold zTB
  rw [zup_o (k := T + 4) (by omega), zup_o (k := T + 1) (by omega), zup_o (k := T + 2) (by omega), zup_o (k := T + 3) (by omega), zup_o (k := T + 5) (by omega), zup_o (k := T + 6) (by omega), zup_o (k := T + 7) (by omega), zup_o (k := T + 8) (by omega)]
  rw [zup_n (by omega), zup_n (by omega), zup_s, zup_n (by omega)]
  exact ⟨⟨h.n, h.l, rfl, h.d⟩, h.2.1, h.2.2.1, h.2.2.2.1, h.2.2.2.2⟩
theorem zTB_D {T : Nat} {t : zMI} {g : zG} (h : zTB T t g) (v : Int) : zTB T (zup t T 11 v) (gsD g v) := by
  unfold zTB
  rw [zup_o (k := T + 4) (by omega), zup_o (k := T + 1) (by omega), zup_o (k := T + 2) (by omega), zup_o (k := T + 3) (by omega), zup_o (k := T + 5) (by omega), zup_o (k := T + 6) (by omega), zup_o (k := T + 7) (by omega), zup_o (k := T + 8) (by omega)]
  rw [zup_n (by omega), zup_n (by omega), zup_n (by omega), zup_s]
  exact ⟨⟨h.n, h.l, h.o, rfl⟩, h.2.1, h.2.2.1, h.2.2.2.1, h.2.2.2.2⟩
section
variable {d T : Nat} {t : zMI} {g : zG} {K : Int → zMI → Prop} {Kv : zMI → Prop}
theorem s_stoneCount (hT : zTa T) (h : zTB T t g) (k : K (gN g) t) : ZX d 11 0 [(0, .ref T)] [] t (zKi K) := by
  refine z_aload_n zi_11_0 rfl ?_
  refine z_getfield zi_11_1 (zt_f0 hT) ?_
  rw [h.n]
  refine z_ireturn zi_11_2 rfl k
theorem s_trainLength (hT : zTa T) (h : zTB T t g) (k : K (gL g) t) : ZX d 26 0 [(0, .ref T)] [] t (zKi K) := by
  refine z_aload_n zi_26_0 rfl ?_
  refine z_getfield zi_26_1 (zt_f7 hT) ?_
  rw [h.l]
  refine z_ireturn zi_26_2 rfl k
theorem s_isRing (hT : zTa T) (h : zTB T t g) (hw : gWF g) (k : K (gO g) t) : ZX d 28 0 [(0, .ref T)] [] t (zKi K) := by
  have ho := hw.o
  refine z_aload_n zi_28_0 rfl ?_
  refine z_getfield zi_28_1 (zt_f9 hT) ?_
  rw [h.o]
  refine z_zreturn zi_28_2 rfl (by omega) k
theorem s_drawIs (hT : zTa T) (h : zTB T t g) (k : K (gD g) t) : ZX d 30 0 [(0, .ref T)] [] t (zKi K) := by
  refine z_aload_n zi_30_0 rfl ?_
  refine z_getfield zi_30_1 (zt_f11 hT) ?_
  rw [h.d]
  refine z_ireturn zi_30_2 rfl k
theorem s_setRing {v : Int} (hT : zTa T) (hv : v = 0 ∨ v = 1) (k : Kv (zup t T 9 v)) : ZX d 29 0 [(0, .ref T), (1, .int (zi v))] [] t (zKv Kv) := by
  refine z_aload_n zi_29_0 rfl ?_
  refine z_iload_n zi_29_1 rfl ?_
  refine z_putfield zi_29_2 (zt_i9 hT) (Or.inr ⟨rfl, hv⟩) ?_
  refine z_vreturn zi_29_3 rfl k
theorem s_setDraw {v : Int} (hT : zTa T) (k : Kv (zup t T 11 v)) : ZX d 31 0 [(0, .ref T), (1, .int (zi v))] [] t (zKv Kv) := by
  refine z_aload_n zi_31_0 rfl ?_
  refine z_iload_n zi_31_1 rfl ?_
  refine z_putfield zi_31_2 (zt_i11 hT) (Or.inl rfl) ?_
  refine z_vreturn zi_31_3 rfl k
theorem s_hasStone {a : Int} (hT : zTa T) (h : zTB T t g) (hw : gWF g) (ha : -2147483648 ≤ a ∧ a < 2147483648) (kt : 0 ≤ a ∧ a < gN g → K 1 t) (kf : ¬ (0 ≤ a ∧ a < gN g) → K 0 t) : ZX d 12 0 [(0, .ref T), (1, .int (zi a))] [] t (zKi K) := by
  have hn := hw.n
  refine z_iload_n zi_12_0 rfl ?_
  refine z_if_lt zi_12_1 (by omega) (fun c => ?_) (fun c => ?_)
  · refine z_iconst zi_12_8 ?_
    refine z_zreturn zi_12_9 rfl (by omega) (kf (by omega))
  · refine z_iload_n zi_12_2 rfl ?_
    refine z_aload_n zi_12_3 rfl ?_
    refine z_getfield zi_12_4 (zt_f0 hT) ?_
    rw [h.n]
    refine z_icmp_ge zi_12_5 (by omega) (fun c2 => ?_) (fun c2 => ?_)
    · refine z_iconst zi_12_8 ?_
      refine z_zreturn zi_12_9 rfl (by omega) (kf (by omega))
    · refine z_iconst zi_12_6 ?_
      refine z_goto zi_12_7 ?_
      refine z_zreturn zi_12_9 rfl (by omega) (kt (by omega))
theorem s_isFull (hT : zTa T) (h : zTB T t g) (hw : gWF g) (kt : gN g = 12 → K 1 t) (kf : gN g < 12 → K 0 t) : ZX d 8 0 [(0, .ref T)] [] t (zKi K) := by
  have hn := hw.n
  refine z_aload_n zi_8_0 rfl ?_
  refine z_getfield zi_8_1 (zt_f0 hT) ?_
  refine z_bipush zi_8_2 (by decide) ?_
  rw [h.n]
  refine z_icmp_lt zi_8_3 (by omega) (fun c => ?_) (fun c => ?_)
  · refine z_iconst zi_8_6 ?_
    refine z_zreturn zi_8_7 rfl (by omega) (kf (by omega))
  · refine z_iconst zi_8_4 ?_
    refine z_goto zi_8_5 ?_
    refine z_zreturn zi_8_7 rfl (by omega) (kt (by omega))
theorem s_kindOf {a : Int} {s : Nat} (hT : zTa T) (h : zTB T t g) (hw : gWF g) (ha : a = (s : Int)) (hs : s < gN g) (k : K (gK g s) t) : ZX (d + 1) 14 0 [(0, .ref T), (1, .int (zi a))] [] t (zKi K) := by
  have hn := hw.n
  refine z_aload_n zi_14_0 rfl ?_
  refine z_getfield zi_14_1 (zt_f1 hT) ?_
  refine z_iload_n zi_14_2 rfl ?_
  refine z_cs2i zi_14_3 rfl rfl ⟨by decide, rfl, Nat.le_of_ble_eq_true rfl, Nat.le_of_ble_eq_true rfl⟩ (s_at (zt_a1 hT) (by omega) ha (by omega) ?_)
  rw [h.k hs]
  refine z_ireturn zi_14_4 rfl k
theorem s_teethOf {a b : Int} {s w : Nat} (hT : zTa T) (h : zTB T t g) (hw : gWF g) (ha : a = (s : Int)) (hs : s < gN g) (hb : b = (w : Int)) (hw2 : w < 2) (k : K (gT g s w) t) : ZX (d + 1) 15 0 [(0, .ref T), (1, .int (zi a)), (2, .int (zi b))] [] t (zKi K) := by
  have hn := hw.n
  refine z_aload_n zi_15_0 rfl ?_
  refine z_getfield zi_15_1 (zt_f2 hT) ?_
  refine z_iconst zi_15_2 ?_
  refine z_iload_n zi_15_3 rfl ?_
  refine z_imul zi_15_4 ?_
  refine z_iload_n zi_15_5 rfl ?_
  refine z_iadd zi_15_6 ?_
  refine z_cs2i zi_15_7 rfl rfl ⟨by decide, rfl, Nat.le_of_ble_eq_true rfl, Nat.le_of_ble_eq_true rfl⟩ (s_at (n := 2 * s + w) (zt_a2 hT) (by omega) (by omega) (by omega) ?_)
  rw [h.t hs hw2]
  refine z_ireturn zi_15_8 rfl k
theorem s_markOf {a b : Int} {s w : Nat} (hT : zTa T) (h : zTB T t g) (hw : gWF g) (ha : a = (s : Int)) (hs : s < gN g) (hb : b = (w : Int)) (hw2 : w < 2) (k : K (gM g s w) t) : ZX (d + 1) 16 0 [(0, .ref T), (1, .int (zi a)), (2, .int (zi b))] [] t (zKi K) := by
  have hn := hw.n
  refine z_aload_n zi_16_0 rfl ?_
  refine z_getfield zi_16_1 (zt_f3 hT) ?_
  refine z_iconst zi_16_2 ?_
  refine z_iload_n zi_16_3 rfl ?_
  refine z_imul zi_16_4 ?_
  refine z_iload_n zi_16_5 rfl ?_
  refine z_iadd zi_16_6 ?_
  refine z_cs2i zi_16_7 rfl rfl ⟨by decide, rfl, Nat.le_of_ble_eq_true rfl, Nat.le_of_ble_eq_true rfl⟩ (s_at (n := 2 * s + w) (zt_a3 hT) (by omega) (by omega) (by omega) ?_)
  rw [h.m hs hw2]
  refine z_ireturn zi_16_8 rfl k
theorem s_setMark {a b v : Int} {s w : Nat} (hT : zTa T) (ha : a = (s : Int)) (hs : s < 12) (hb : b = (w : Int)) (hw2 : w < 2) (k : Kv (zup t (T + 3) (2 * s + w) v)) : ZX (d + 1) 17 0 [(0, .ref T), (1, .int (zi a)), (2, .int (zi b)), (3, .int (zi v))] [] t (zKv Kv) := by
  refine z_aload_n zi_17_0 rfl ?_
  refine z_getfield zi_17_1 (zt_f3 hT) ?_
  refine z_iconst zi_17_2 ?_
  refine z_iload_n zi_17_3 rfl ?_
  refine z_imul zi_17_4 ?_
  refine z_iload_n zi_17_5 rfl ?_
  refine z_iadd zi_17_6 ?_
  refine z_iload_n zi_17_7 rfl ?_
  refine z_cs3v zi_17_8 rfl rfl rfl ⟨by decide, rfl, Nat.le_of_ble_eq_true rfl, Nat.le_of_ble_eq_true rfl⟩ (s_put (n := 2 * s + w) (zt_a3 hT) (by omega) (by omega) (by omega) ?_)
  refine z_vreturn zi_17_9 rfl k
theorem s_handOf {a : Int} {s : Nat} (hT : zTa T) (h : zTB T t g) (hw : gWF g) (ha : a = (s : Int)) (hs : s < gN g) (k : K (gH g s) t) : ZX (d + 1) 18 0 [(0, .ref T), (1, .int (zi a))] [] t (zKi K) := by
  have hn := hw.n
  refine z_aload_n zi_18_0 rfl ?_
  refine z_getfield zi_18_1 (zt_f4 hT) ?_
  refine z_iload_n zi_18_2 rfl ?_
  refine z_cs2i zi_18_3 rfl rfl ⟨by decide, rfl, Nat.le_of_ble_eq_true rfl, Nat.le_of_ble_eq_true rfl⟩ (s_at (zt_a4 hT) (by omega) ha (by omega) ?_)
  rw [h.h hs]
  refine z_ireturn zi_18_4 rfl k
theorem s_setHand {a v : Int} {s : Nat} (hT : zTa T) (ha : a = (s : Int)) (hs : s < 12) (k : Kv (zup t (T + 4) s v)) : ZX (d + 1) 19 0 [(0, .ref T), (1, .int (zi a)), (2, .int (zi v))] [] t (zKv Kv) := by
  refine z_aload_n zi_19_0 rfl ?_
  refine z_getfield zi_19_1 (zt_f4 hT) ?_
  refine z_iload_n zi_19_2 rfl ?_
  refine z_iload_n zi_19_3 rfl ?_
  refine z_cs3v zi_19_4 rfl rfl rfl ⟨by decide, rfl, Nat.le_of_ble_eq_true rfl, Nat.le_of_ble_eq_true rfl⟩ (s_put (zt_a4 hT) (by omega) ha (by omega) ?_)
  refine z_vreturn zi_19_5 rfl k
theorem s_scoreOf {a : Int} {s : Nat} (hT : zTa T) (h : zTB T t g) (ha : a = (s : Int)) (hs : s < 2) (k : K (gS g s) t) : ZX (d + 1) 21 0 [(0, .ref T), (1, .int (zi a))] [] t (zKi K) := by
  refine z_aload_n zi_21_0 rfl ?_
  refine z_getfield zi_21_1 (zt_f10 hT) ?_
  refine z_iload_n zi_21_2 rfl ?_
  refine z_cs2i zi_21_3 rfl rfl ⟨by decide, rfl, Nat.le_of_ble_eq_true rfl, Nat.le_of_ble_eq_true rfl⟩ (s_at (zt_a8 hT) (by omega) ha (by omega) ?_)
  rw [h.s hs]
  refine z_ireturn zi_21_4 rfl k
theorem s_placeOf {a : Int} {s : Nat} (hT : zTa T) (h : zTB T t g) (hw : gWF g) (ha : a = (s : Int)) (hs : s < gN g) (k : K (gPi g s) t) : ZX (d + 1) 22 0 [(0, .ref T), (1, .int (zi a))] [] t (zKi K) := by
  have hn := hw.n
  refine z_aload_n zi_22_0 rfl ?_
  refine z_getfield zi_22_1 (zt_f5 hT) ?_
  refine z_iload_n zi_22_2 rfl ?_
  refine z_cs2i zi_22_3 rfl rfl ⟨by decide, rfl, Nat.le_of_ble_eq_true rfl, Nat.le_of_ble_eq_true rfl⟩ (s_at (zt_a5 hT) (by omega) ha (by omega) ?_)
  rw [h.p hs]
  refine z_ireturn zi_22_4 rfl k
theorem s_isLaid {a : Int} {s : Nat} (hT : zTa T) (h : zTB T t g) (hw : gWF g) (ha : a = (s : Int)) (hs : s < gN g) (kt : ∀ p, gP g s = some p → K 1 t) (kf : gP g s = none → K 0 t) : ZX (d + 2) 23 0 [(0, .ref T), (1, .int (zi a))] [] t (zKi K) := by
  have hn := hw.n
  have hr := gPi_rng hw s
  refine z_aload_n zi_23_0 rfl ?_
  refine z_iload_n zi_23_1 rfl ?_
  refine z_cv1i zi_23_2 rfl (zt_c hT) ⟨rfl, Nat.le_of_ble_eq_true rfl, Nat.le_of_ble_eq_true rfl⟩ (s_placeOf hT h hw ha hs ?_)
  cases e : gP g s with
  | none =>
    have e2 : gPi g s = -4 := by unfold gPi; rw [e]
    refine z_if_lt_t zi_23_3 (by omega) (by omega) ?_
    refine z_iconst zi_23_6 ?_
    refine z_zreturn zi_23_7 rfl (by omega) (kf e)
  | some p =>
    have e2 : gPi g s = p := by unfold gPi; rw [e]
    refine z_if_lt_f zi_23_3 (by omega) (by omega) ?_
    refine z_iconst zi_23_4 ?_
    refine z_goto zi_23_5 ?_
    refine z_zreturn zi_23_7 rfl (by omega) (kt p e)
theorem s_frontOf {a : Int} {s : Nat} (hT : zTa T) (h : zTB T t g) (hw : gWF g) (ha : a = (s : Int)) (hs : s < gN g) (k : K (gFi g s) t) : ZX (d + 1) 24 0 [(0, .ref T), (1, .int (zi a))] [] t (zKi K) := by
  have hn := hw.n
  refine z_aload_n zi_24_0 rfl ?_
  refine z_getfield zi_24_1 (zt_f6 hT) ?_
  refine z_iload_n zi_24_2 rfl ?_
  refine z_cs2i zi_24_3 rfl rfl ⟨by decide, rfl, Nat.le_of_ble_eq_true rfl, Nat.le_of_ble_eq_true rfl⟩ (s_at (zt_a6 hT) (by omega) ha (by omega) ?_)
  rw [h.f hs]
  refine z_ireturn zi_24_4 rfl k
theorem s_backOf {a : Int} {s : Nat} (hT : zTa T) (h : zTB T t g) (hw : gWF g) (ha : a = (s : Int)) (hs : s < gN g) (k : K (1 - gFi g s) t) : ZX (d + 2) 25 0 [(0, .ref T), (1, .int (zi a))] [] t (zKi K) := by
  have hn := hw.n
  have hr := gFi_rng hw s
  refine z_iconst zi_25_0 ?_
  refine z_aload_n zi_25_1 rfl ?_
  refine z_iload_n zi_25_2 rfl ?_
  refine z_cv1i zi_25_3 rfl (zt_c hT) ⟨rfl, Nat.le_of_ble_eq_true rfl, Nat.le_of_ble_eq_true rfl⟩ (s_frontOf hT h hw ha hs ?_)
  refine z_isub zi_25_4 ?_
  refine z_ireturn zi_25_5 rfl k
theorem s_stoneInTrain {a : Int} {p : Nat} (hT : zTa T) (h : zTB T t g) (hw : gWF g) (ha : a = (p : Int)) (hp : p < gL g) (k : K (gR g p) t) : ZX (d + 1) 27 0 [(0, .ref T), (1, .int (zi a))] [] t (zKi K) := by
  have hn := hw.n
  refine z_aload_n zi_27_0 rfl ?_
  refine z_getfield zi_27_1 (zt_f8 hT) ?_
  refine z_iload_n zi_27_2 rfl ?_
  refine z_cs2i zi_27_3 rfl rfl ⟨by decide, rfl, Nat.le_of_ble_eq_true rfl, Nat.le_of_ble_eq_true rfl⟩ (s_at (zt_a7 hT) (by omega) ha (by omega) ?_)
  rw [h.r hp]
  refine z_ireturn zi_27_4 rfl k
theorem s_backWay {a v : Int} {p : Nat} (hT : zTa T) (h : zTB T t g) (hw : gWF g) (hp : p < gL g) (ha : a = (gR g p : Int)) (k : K (if gK g (gR g p) = 2 then v else -v) t) : ZX (d + 1) 41 0 [(0, .ref T), (1, .int (zi a)), (2, .int (zi v))] [] t (zKi K) := by
  have hn := hw.n
  have hr := hw.r hp
  have hk := hw.k hr.1
  refine z_aload_n zi_41_0 rfl ?_
  refine z_getfield zi_41_1 (zt_f1 hT) ?_
  refine z_iload_n zi_41_2 rfl ?_
  refine z_cs2i zi_41_3 rfl rfl ⟨by decide, rfl, Nat.le_of_ble_eq_true rfl, Nat.le_of_ble_eq_true rfl⟩ (s_at (zt_a1 hT) (by omega) ha (by omega) ?_)
  rw [h.k hr.1]
  refine z_iconst zi_41_4 ?_
  refine z_icmp_ne zi_41_5 (by omega) (fun c => ?_) (fun c => ?_)
  · refine z_iload_n zi_41_8 rfl ?_
    refine z_ineg zi_41_9 ?_
    rw [if_neg c] at k
    refine z_ireturn zi_41_10 rfl k
  · refine z_iload_n zi_41_6 rfl ?_
    refine z_goto zi_41_7 ?_
    rw [if_pos (by omega)] at k
    refine z_ireturn zi_41_10 rfl k
theorem s_hasPawl {a : Int} {s : Nat} (hT : zTa T) (h : zTB T t g) (hw : gWF g) (ha : a = (s : Int)) (hs : s < gN g) (kt : gK g s = 1 ∨ gK g s = 3 → K 1 t) (kf : ¬ (gK g s = 1 ∨ gK g s = 3) → K 0 t) : ZX (d + 1) 45 0 [(0, .ref T), (1, .int (zi a))] [] t (zKi K) := by
  have hn := hw.n
  have hk := hw.k hs
  refine z_aload_n zi_45_0 rfl ?_
  refine z_getfield zi_45_1 (zt_f1 hT) ?_
  refine z_iload_n zi_45_2 rfl ?_
  refine z_cs2i zi_45_3 rfl rfl ⟨by decide, rfl, Nat.le_of_ble_eq_true rfl, Nat.le_of_ble_eq_true rfl⟩ (s_at (zt_a1 hT) (by omega) ha (by omega) ?_)
  rw [h.k hs]
  refine z_istore_n zi_45_4 rfl ?_
  refine z_iload_n zi_45_5 rfl ?_
  refine z_iconst zi_45_6 ?_
  refine z_icmp_eq zi_45_7 (by omega) (fun c => ?_) (fun c => ?_)
  · refine z_iconst zi_45_11 ?_
    refine z_goto zi_45_12 ?_
    refine z_zreturn zi_45_14 rfl (by omega) (kt (by omega))
  · refine z_iload_n zi_45_8 rfl ?_
    refine z_iconst zi_45_9 ?_
    refine z_icmp_ne zi_45_10 (by omega) (fun c2 => ?_) (fun c2 => ?_)
    · refine z_iconst zi_45_13 ?_
      refine z_zreturn zi_45_14 rfl (by omega) (kf (by omega))
    · refine z_iconst zi_45_11 ?_
      refine z_goto zi_45_12 ?_
      refine z_zreturn zi_45_14 rfl (by omega) (kt (by omega))
theorem s_setNotLaid {a : Int} {s : Nat} (hT : zTa T) (ha : a = (s : Int)) (hs : s < 12) (k : Kv (zup (zup (zup t (T + 4) s (-4)) (T + 5) s (-4)) (T + 6) s (-4))) : ZX (d + 1) 10 0 [(0, .ref T), (1, .int (zi a))] [] t (zKv Kv) := by
  refine z_aload_n zi_10_0 rfl ?_
  refine z_getfield zi_10_1 (zt_f4 hT) ?_
  refine z_iload_n zi_10_2 rfl ?_
  refine z_bipush zi_10_3 (by decide) ?_
  refine z_cs3v zi_10_4 rfl rfl rfl ⟨by decide, rfl, Nat.le_of_ble_eq_true rfl, Nat.le_of_ble_eq_true rfl⟩ (s_put (zt_a4 hT) (by omega) ha (by omega) ?_)
  refine z_aload_n zi_10_5 rfl ?_
  refine z_getfield zi_10_6 (zt_f5 hT) ?_
  refine z_iload_n zi_10_7 rfl ?_
  refine z_bipush zi_10_8 (by decide) ?_
  refine z_cs3v zi_10_9 rfl rfl rfl ⟨by decide, rfl, Nat.le_of_ble_eq_true rfl, Nat.le_of_ble_eq_true rfl⟩ (s_put (zt_a5 hT) (by omega) ha (by omega) ?_)
  refine z_aload_n zi_10_10 rfl ?_
  refine z_getfield zi_10_11 (zt_f6 hT) ?_
  refine z_iload_n zi_10_12 rfl ?_
  refine z_bipush zi_10_13 (by decide) ?_
  refine z_cs3v zi_10_14 rfl rfl rfl ⟨by decide, rfl, Nat.le_of_ble_eq_true rfl, Nat.le_of_ble_eq_true rfl⟩ (s_put (zt_a6 hT) (by omega) ha (by omega) ?_)
  refine z_vreturn zi_10_15 rfl k
end
end
section
/-! a table: marks that are up, ways, locks, turns -/
section
variable {d T : Nat} {t : zMI} {g : zG} {K : Int → zMI → Prop} {Kv : zMI → Prop}
theorem s_upMarks (hT : zTa T) (h : zTB T t g) (hw : gWF g) (k : K (gup g (gL g)) t) : ZX (d + 2) 39 0 [(0, .ref T)] [] t (zKi K) := by
  have hn := hw.n
  have loop : ∀ (j n : Nat), n + j = gL g → ZX (d + 2) 39 4 [(2, .int (zi n)), (1, .int (zi (gup g n))), (0, .ref T)] [] t (zKi K) := by
    intro j
    induction j with
    | zero =>
      intro n e
      have e1 : n = gL g := by omega
      subst e1
      refine z_iload_n zi_39_4 rfl ?_
      refine z_aload_n zi_39_5 rfl ?_
      refine z_getfield zi_39_6 (zt_f7 hT) ?_
      rw [h.l]
      refine z_icmp_ge_t zi_39_7 (by omega) (by omega) ?_
      refine z_iload_n zi_39_34 rfl ?_
      refine z_ireturn zi_39_35 rfl k
    | succ j ih =>
      intro n e
      have hr := hw.r (p := n) (by omega)
      have m0 := hw.t hr.1 (show 0 < 2 by omega)
      have m1 := hw.t hr.1 (show 1 < 2 by omega)
      have tl : ∀ x y : Int, x = (if gM g (gR g n) 0 = 0 then 1 else 0) → y = (if gM g (gR g n) 1 = 0 then 1 else 0) → ZX (d + 2) 39 29 [(3, .int (zi (gR g n))), (2, .int (zi n)), (1, .int (zi (gup g n))), (0, .ref T)] [.int (zi y), .int (zi x), .int (zi (gup g n))] t (zKi K) := by
        intro x y ex ey
        refine z_iadd zi_39_29 ?_
        refine z_iadd zi_39_30 ?_
        refine z_istore_n zi_39_31 rfl ?_
        refine z_iinc zi_39_32 rfl rfl ?_
        refine z_goto zi_39_33 ?_
        have e2 : gup g (n + 1) = gup g n + (x + y) := by rw [ex, ey]; rfl
        rw [← e2]
        refine z_loc (lv' := [(2, .int (zi ((n + 1 : Nat) : Int))), (1, .int (zi (gup g (n + 1)))), (0, .ref T)]) rfl ?_
        exact ih (n + 1) (by omega)
      have md : ∀ x : Int, x = (if gM g (gR g n) 0 = 0 then 1 else 0) → ZX (d + 2) 39 21 [(3, .int (zi (gR g n))), (2, .int (zi n)), (1, .int (zi (gup g n))), (0, .ref T)] [.int (zi x), .int (zi (gup g n))] t (zKi K) := by
        intro x ex
        refine z_aload_n zi_39_21 rfl ?_
        refine z_iload_n zi_39_22 rfl ?_
        refine z_iconst zi_39_23 ?_
        refine z_cv2i zi_39_24 rfl rfl (zt_c hT) ⟨rfl, Nat.le_of_ble_eq_true rfl, Nat.le_of_ble_eq_true rfl⟩ (s_markOf (s := gR g n) (w := 1) hT h hw rfl hr.1 rfl (by omega) ?_)
        refine z_if_ne zi_39_25 (by omega) (fun c => ?_) (fun c => ?_)
        · refine z_iconst zi_39_28 ?_
          exact tl x 0 ex (by rw [if_neg c])
        · refine z_iconst zi_39_26 ?_
          refine z_goto zi_39_27 ?_
          exact tl x 1 ex (by rw [if_pos (by omega)])
      refine z_iload_n zi_39_4 rfl ?_
      refine z_aload_n zi_39_5 rfl ?_
      refine z_getfield zi_39_6 (zt_f7 hT) ?_
      rw [h.l]
      refine z_icmp_ge_f zi_39_7 (by omega) (by omega) ?_
      refine z_aload_n zi_39_8 rfl ?_
      refine z_iload_n zi_39_9 rfl ?_
      refine z_cv1i zi_39_10 rfl (zt_c hT) ⟨rfl, Nat.le_of_ble_eq_true rfl, Nat.le_of_ble_eq_true rfl⟩ (s_stoneInTrain (p := n) hT h hw rfl (by omega) ?_)
      refine z_istore_n zi_39_11 rfl ?_
      refine z_iload_n zi_39_12 rfl ?_
      refine z_aload_n zi_39_13 rfl ?_
      refine z_iload_n zi_39_14 rfl ?_
      refine z_iconst zi_39_15 ?_
      refine z_cv2i zi_39_16 rfl rfl (zt_c hT) ⟨rfl, Nat.le_of_ble_eq_true rfl, Nat.le_of_ble_eq_true rfl⟩ (s_markOf (s := gR g n) (w := 0) hT h hw rfl hr.1 rfl (by omega) ?_)
      refine z_if_ne zi_39_17 (by omega) (fun c => ?_) (fun c => ?_)
      · refine z_iconst zi_39_20 ?_
        exact md 0 (by rw [if_neg c])
      · refine z_iconst zi_39_18 ?_
        refine z_goto zi_39_19 ?_
        exact md 1 (by rw [if_pos (by omega)])
  refine z_iconst zi_39_0 ?_
  refine z_istore_n zi_39_1 rfl ?_
  refine z_iconst zi_39_2 ?_
  refine z_istore_n zi_39_3 rfl ?_
  refine z_loc (lv' := [(2, .int (zi ((0 : Nat) : Int))), (1, .int (zi (gup g 0))), (0, .ref T)]) rfl ?_
  exact loop (gL g) 0 (by omega)
theorem s_scoreNow (hT : zTa T) (h : zTB T t g) (hw : gWF g) (k : K (gsc g) t) : ZX (d + 3) 38 0 [(0, .ref T)] [] t (zKi K) := by
  have hn := hw.n
  have hu := gup_rng g (gL g)
  have loop : ∀ (j n : Nat), n + j = gL g → K ((gL g : Int) + ghv g (gL g)) t → ZX (d + 3) 38 18 [(2, .int (zi n)), (1, .int (zi ((gL g : Int) + ghv g n))), (0, .ref T)] [] t (zKi K) := by
    intro j
    induction j with
    | zero =>
      intro n e k
      have e1 : n = gL g := by omega
      subst e1
      refine z_iload_n zi_38_18 rfl ?_
      refine z_aload_n zi_38_19 rfl ?_
      refine z_getfield zi_38_20 (zt_f7 hT) ?_
      rw [h.l]
      refine z_icmp_ge_t zi_38_21 (by omega) (by omega) ?_
      refine z_iload_n zi_38_32 rfl ?_
      refine z_ireturn zi_38_33 rfl k
    | succ j ih =>
      intro n e k
      have hr := hw.r (p := n) (by omega)
      have hk := hw.k hr.1
      have hv := ghv_rng g n
      refine z_iload_n zi_38_18 rfl ?_
      refine z_aload_n zi_38_19 rfl ?_
      refine z_getfield zi_38_20 (zt_f7 hT) ?_
      rw [h.l]
      refine z_icmp_ge_f zi_38_21 (by omega) (by omega) ?_
      refine z_aload_n zi_38_22 rfl ?_
      refine z_aload_n zi_38_23 rfl ?_
      refine z_iload_n zi_38_24 rfl ?_
      refine z_cv1i zi_38_25 rfl (zt_c hT) ⟨rfl, Nat.le_of_ble_eq_true rfl, Nat.le_of_ble_eq_true rfl⟩ (s_stoneInTrain (p := n) hT h hw rfl (by omega) ?_)
      refine z_cv1i zi_38_26 rfl (zt_c hT) ⟨rfl, Nat.le_of_ble_eq_true rfl, Nat.le_of_ble_eq_true rfl⟩ (s_kindOf (s := gR g n) hT h hw rfl hr.1 ?_)
      refine z_iconst zi_38_27 ?_
      refine z_icmp_ne zi_38_28 (by omega) (fun c => ?_) (fun c => ?_)
      · refine z_iinc zi_38_30 rfl rfl ?_
        refine z_goto zi_38_31 ?_
        have e2 : ghv g (n + 1) = ghv g n := by show ghv g n + (if gK g (gR g n) = 3 then 1 else 0) = _; rw [if_neg c]; omega
        refine z_loc (lv' := [(2, .int (zi ((n + 1 : Nat) : Int))), (1, .int (zi ((gL g : Int) + ghv g n))), (0, .ref T)]) rfl ?_
        rw [← e2]
        exact ih (n + 1) (by omega) k
      · refine z_iinc zi_38_29 rfl rfl ?_
        refine z_iinc zi_38_30 rfl rfl ?_
        refine z_goto zi_38_31 ?_
        have e2 : (gL g : Int) + ghv g n + 1 = (gL g : Int) + ghv g (n + 1) := by show _ = (gL g : Int) + (ghv g n + (if gK g (gR g n) = 3 then 1 else 0)); rw [if_pos (by omega)]; omega
        rw [e2]
        refine z_loc (lv' := [(2, .int (zi ((n + 1 : Nat) : Int))), (1, .int (zi ((gL g : Int) + ghv g (n + 1)))), (0, .ref T)]) rfl ?_
        exact ih (n + 1) (by omega) k
  unfold gsc at k
  refine z_aload_n zi_38_0 rfl ?_
  refine z_getfield zi_38_1 (zt_f7 hT) ?_
  refine z_iconst zi_38_2 ?_
  rw [h.l]
  refine z_icmp_lt zi_38_3 (by omega) (fun c => ?_) (fun c => ?_)
  · refine z_iconst zi_38_11 ?_
    rw [if_pos (by omega)] at k
    refine z_ireturn zi_38_12 rfl k
  · refine z_aload_n zi_38_4 rfl ?_
    refine z_cv0i zi_38_5  (zt_c hT) ⟨rfl, Nat.le_of_ble_eq_true rfl, Nat.le_of_ble_eq_true rfl⟩ (s_upMarks hT h hw ?_)
    refine z_iconst zi_38_6 ?_
    refine z_aload_n zi_38_7 rfl ?_
    refine z_getfield zi_38_8 (zt_f7 hT) ?_
    refine z_imul zi_38_9 ?_
    rw [h.l]
    refine z_icmp_ge zi_38_10 (by omega) (fun c2 => ?_) (fun c2 => ?_)
    · rw [if_neg (by omega)] at k
      refine z_aload_n zi_38_13 rfl ?_
      refine z_getfield zi_38_14 (zt_f7 hT) ?_
      rw [h.l]
      refine z_istore_n zi_38_15 rfl ?_
      refine z_iconst zi_38_16 ?_
      refine z_istore_n zi_38_17 rfl ?_
      refine z_loc (lv' := [(2, .int (zi ((0 : Nat) : Int))), (1, .int (zi ((gL g : Int)))), (0, .ref T)]) rfl ?_
      have e0 : (gL g : Int) = (gL g : Int) + ghv g 0 := by show _ = (gL g : Int) + 0; omega
      refine z_lv (lv' := [(2, .int (zi ((0 : Nat) : Int))), (1, .int (zi ((gL g : Int) + ghv g 0))), (0, .ref T)]) (by rw [← e0]) ?_
      exact loop (gL g) 0 (by omega) k
    · refine z_iconst zi_38_11 ?_
      rw [if_pos (by omega)] at k
      refine z_ireturn zi_38_12 rfl k
theorem s_backWayAt {a : Int} {p : Nat} (hT : zTa T) (h : zTB T t g) (hw : gWF g) (ha : a = (p : Int)) (hp : p < gL g) (k : K (gB g p) t) : ZX (d + 2) 42 0 [(0, .ref T), (1, .int (zi a))] [] t (zKi K) := by
  have hn := hw.n
  subst ha
  have loop : ∀ (j n : Nat), n + j = p + 1 → ZX (d + 2) 42 4 [(3, .int (zi n)), (2, .int (zi (-(gA g n)))), (0, .ref T), (1, .int (zi p))] [] t (zKi K) := by
    intro j
    induction j with
    | zero =>
      intro n e
      have e1 : n = p + 1 := by omega
      subst e1
      refine z_iload_n zi_42_4 rfl ?_
      refine z_iload_n zi_42_5 rfl ?_
      refine z_icmp_gt_t zi_42_6 (by omega) (by omega) ?_
      refine z_iload_n zi_42_21 rfl ?_
      refine z_ireturn zi_42_22 rfl k
    | succ j ih =>
      intro n e
      refine z_iload_n zi_42_4 rfl ?_
      refine z_iload_n zi_42_5 rfl ?_
      refine z_icmp_gt_f zi_42_6 (by omega) (by omega) ?_
      refine z_iload_n zi_42_7 rfl ?_
      refine z_aload_n zi_42_8 rfl ?_
      refine z_getfield zi_42_9 (zt_f7 hT) ?_
      rw [h.l]
      refine z_icmp_ge_f zi_42_10 (by omega) (by omega) ?_
      refine z_aload_n zi_42_11 rfl ?_
      refine z_aload_n zi_42_12 rfl ?_
      refine z_iload_n zi_42_13 rfl ?_
      refine z_cv1i zi_42_14 rfl (zt_c hT) ⟨rfl, Nat.le_of_ble_eq_true rfl, Nat.le_of_ble_eq_true rfl⟩ (s_stoneInTrain (p := n) hT h hw rfl (by omega) ?_)
      refine z_iload_n zi_42_15 rfl ?_
      refine z_ineg zi_42_16 ?_
      refine z_cv2i zi_42_17 rfl rfl (zt_c hT) ⟨rfl, Nat.le_of_ble_eq_true rfl, Nat.le_of_ble_eq_true rfl⟩ (s_backWay (p := n) hT h hw (by omega) rfl ?_)
      refine z_istore_n zi_42_18 rfl ?_
      refine z_iinc zi_42_19 rfl rfl ?_
      refine z_goto zi_42_20 ?_
      have e2 : (if gK g (gR g n) = 2 then - -(gA g n) else - - -(gA g n)) = -(gA g (n + 1)) := by
        have e3 := gB_eq g n
        have e4 := gA_s g n
        rw [e4, e3]
        split <;> omega
      rw [e2]
      refine z_loc (lv' := [(3, .int (zi ((n + 1 : Nat) : Int))), (2, .int (zi (-(gA g (n + 1))))), (0, .ref T), (1, .int (zi p))]) rfl ?_
      exact ih (n + 1) (by omega)
  refine z_iconst zi_42_0 ?_
  refine z_istore_n zi_42_1 rfl ?_
  refine z_iconst zi_42_2 ?_
  refine z_istore_n zi_42_3 rfl ?_
  refine z_loc (lv' := [(3, .int (zi ((0 : Nat) : Int))), (2, .int (zi (-(gA g 0)))), (0, .ref T), (1, .int (zi p))]) rfl ?_
  exact loop (p + 1) 0 (by omega)
theorem s_lastBackWay (hT : zTa T) (h : zTB T t g) (hw : gWF g) (hp : 0 < gL g) (k : K (gB g (gL g - 1)) t) : ZX (d + 3) 43 0 [(0, .ref T)] [] t (zKi K) := by
  have hn := hw.n
  refine z_aload_n zi_43_0 rfl ?_
  refine z_aload_n zi_43_1 rfl ?_
  refine z_getfield zi_43_2 (zt_f7 hT) ?_
  rw [h.l]
  refine z_iconst zi_43_3 ?_
  refine z_isub zi_43_4 ?_
  refine z_cv1i zi_43_5 rfl (zt_c hT) ⟨rfl, Nat.le_of_ble_eq_true rfl, Nat.le_of_ble_eq_true rfl⟩ (s_backWayAt (p := gL g - 1) hT h hw (by omega) (by omega) ?_)
  refine z_ireturn zi_43_6 rfl k
theorem s_backWayAt0 (hT : zTa T) (h : zTB T t g) (k : K (-1) t) : ZX (d + 2) 42 0 [(0, .ref T), (1, .int (zi (-1)))] [] t (zKi K) := by
  refine z_iconst zi_42_0 ?_
  refine z_istore_n zi_42_1 rfl ?_
  refine z_iconst zi_42_2 ?_
  refine z_istore_n zi_42_3 rfl ?_
  refine z_iload_n zi_42_4 rfl ?_
  refine z_iload_n zi_42_5 rfl ?_
  refine z_icmp_gt_t zi_42_6 (by omega) (by omega) ?_
  refine z_iload_n zi_42_21 rfl ?_
  refine z_ireturn zi_42_22 rfl k
theorem s_lastBackWay0 (hT : zTa T) (h : zTB T t g) (hp : gL g = 0) (k : K (-1) t) : ZX (d + 3) 43 0 [(0, .ref T)] [] t (zKi K) := by
  refine z_aload_n zi_43_0 rfl ?_
  refine z_aload_n zi_43_1 rfl ?_
  refine z_getfield zi_43_2 (zt_f7 hT) ?_
  rw [h.l, hp]
  refine z_iconst zi_43_3 ?_
  refine z_isub zi_43_4 ?_
  refine z_cv1i zi_43_5 rfl (zt_c hT) ⟨rfl, Nat.le_of_ble_eq_true rfl, Nat.le_of_ble_eq_true rfl⟩ (s_backWayAt0 hT h ?_)
  refine z_ireturn zi_43_6 rfl k
theorem s_lockOf {way : Int} (hT : zTa T) (h : zTB T t g) (hw : gWF g) (hy : way = 1 ∨ way = -1) (k : K (gLk g way) t) : ZX (d + 2) 44 0 [(0, .ref T), (1, .int (zi way))] [] t (zKi K) := by
  have hn := hw.n
  have ho := hw.o
  have loop : ∀ (j n : Nat), n + j = gL g → ∀ b : Int, (0 < n → b = way * gB g (n - 1)) → (n = 0 → b = 0) → ZX (d + 2) 44 8 [(5, .int (zi n)), (4, .int (zi b)), (3, .int (zi (way * gA g n))), (2, .int (zi (match glk g way n with | some p => 2 + (gR g p : Int) | none => 0))), (0, .ref T), (1, .int (zi way))] [] t (zKi K) := by
    intro j
    induction j with
    | zero =>
      intro n e b hb hb0
      have e1 : n = gL g := by omega
      subst e1
      unfold gLk at k
      have hbp := gB_pm g (gL g - 1)
      refine z_iload zi_44_8 rfl ?_
      refine z_aload_n zi_44_9 rfl ?_
      refine z_getfield zi_44_10 (zt_f7 hT) ?_
      rw [h.l]
      refine z_icmp_ge_t zi_44_11 (by omega) (by omega) ?_
      refine z_aload_n zi_44_39 rfl ?_
      refine z_getfield zi_44_40 (zt_f9 hT) ?_
      rw [h.o]
      refine z_if_eq zi_44_41 (by omega) (fun c => ?_) (fun c => ?_)
      · refine z_iload_n zi_44_47 rfl ?_
        rw [if_neg (by omega)] at k
        refine z_ireturn zi_44_48 rfl k
      · have hL := ho.2 (by omega)
        have hb2 := hb (by omega)
        have hb3 : b = 1 ∨ b = -1 := by rcases hy with rfl | rfl <;> omega
        refine z_iload zi_44_42 rfl ?_
        refine z_iload_n zi_44_43 rfl ?_
        refine z_icmp_ne zi_44_44 (by omega) (fun c2 => ?_) (fun c2 => ?_)
        · refine z_iload_n zi_44_47 rfl ?_
          have e3 : ¬ gB g (gL g - 1) = 1 := fun q => by rw [q] at hb2; omega
          rw [if_neg (fun q => e3 q.2)] at k
          refine z_ireturn zi_44_48 rfl k
        · refine z_iconst zi_44_45 ?_
          refine z_goto zi_44_46 ?_
          have e3 : gB g (gL g - 1) = 1 := by
            rcases hbp with q | q
            · exact q
            · rw [q] at hb2; omega
          rw [if_pos ⟨by omega, e3⟩] at k
          refine z_ireturn zi_44_48 rfl k
    | succ j ih =>
      intro n e b hb hb0
      have hr := hw.r (p := n) (by omega)
      have hap := gA_pm g n
      have hbp := gB_pm g n
      have hA : way * gA g n = 1 ∨ way * gA g n = -1 := by rcases hy with rfl | rfl <;> omega
      have hB : way * gB g n = 1 ∨ way * gB g n = -1 := by rcases hy with rfl | rfl <;> omega
      refine z_iload zi_44_8 rfl ?_
      refine z_aload_n zi_44_9 rfl ?_
      refine z_getfield zi_44_10 (zt_f7 hT) ?_
      rw [h.l]
      refine z_icmp_ge_f zi_44_11 (by omega) (by omega) ?_
      refine z_aload_n zi_44_12 rfl ?_
      refine z_getfield zi_44_13 (zt_f8 hT) ?_
      refine z_iload zi_44_14 rfl ?_
      refine z_cs2i zi_44_15 rfl rfl ⟨by decide, rfl, Nat.le_of_ble_eq_true rfl, Nat.le_of_ble_eq_true rfl⟩ (s_at (n := n) (zt_a7 hT) (by omega) rfl (by omega) ?_)
      rw [h.r (show n < gL g by omega)]
      refine z_istore zi_44_16 rfl ?_
      refine z_aload_n zi_44_17 rfl ?_
      refine z_iload zi_44_18 rfl ?_
      refine z_iload_n zi_44_19 rfl ?_
      refine z_cv2i zi_44_20 rfl rfl (zt_c hT) ⟨rfl, Nat.le_of_ble_eq_true rfl, Nat.le_of_ble_eq_true rfl⟩ (s_backWay (p := n) hT h hw (by omega) rfl ?_)
      have e2 : (if gK g (gR g n) = 2 then way * gA g n else -(way * gA g n)) = way * gB g n := by
        rw [gB_eq g n]
        split
        · rfl
        · rw [Int.mul_neg]
      rw [e2]
      refine z_istore zi_44_21 rfl ?_
      refine z_aload_n zi_44_22 rfl ?_
      refine z_iload zi_44_23 rfl ?_
      have e5 : -(way * gB g n) = way * gA g (n + 1) := by rw [gA_s, Int.mul_neg]
      have fin : ∀ x : Int, x = (match glk g way (n + 1) with | some p => 2 + (gR g p : Int) | none => 0) → ZX (d + 2) 44 34 [(4, .int (zi (way * gB g n))), (6, .int (zi (gR g n))), (5, .int (zi n)), (3, .int (zi (way * gA g n))), (2, .int (zi x)), (0, .ref T), (1, .int (zi way))] [] t (zKi K) := by
        intro x ex
        subst ex
        refine z_iload zi_44_34 rfl ?_
        refine z_ineg zi_44_35 ?_
        refine z_istore_n zi_44_36 rfl ?_
        refine z_iinc zi_44_37 rfl rfl ?_
        refine z_goto zi_44_38 ?_
        rw [e5]
        refine z_loc (lv' := [(5, .int (zi ((n + 1 : Nat) : Int))), (4, .int (zi (way * gB g n))), (3, .int (zi (way * gA g (n + 1)))), (2, .int (zi (match glk g way (n + 1) with | some p => 2 + (gR g p : Int) | none => 0))), (0, .ref T), (1, .int (zi way))]) rfl ?_
        exact ih (n + 1) (by omega) _ (fun _ => rfl) (fun q => by omega)
      have yes : (gK g (gR g n) = 1 ∨ gK g (gR g n) = 3) ∧ (way * gA g n < 0 ∨ way * gB g n < 0) → glk g way (n + 1) = some n := fun q => by
        show (if _ then _ else _) = _
        rw [if_pos q]
      have no : ¬ ((gK g (gR g n) = 1 ∨ gK g (gR g n) = 3) ∧ (way * gA g n < 0 ∨ way * gB g n < 0)) → glk g way (n + 1) = glk g way n := fun q => by
        show (if _ then _ else _) = _
        rw [if_neg q]
      refine z_cv1i zi_44_24 rfl (zt_c hT) ⟨rfl, Nat.le_of_ble_eq_true rfl, Nat.le_of_ble_eq_true rfl⟩ (s_hasPawl (s := gR g n) hT h hw rfl hr.1 (fun q => ?_) (fun q => ?_))
      · refine z_if_eq_f zi_44_25 (by omega) (by omega) ?_
        refine z_iload_n zi_44_26 rfl ?_
        refine z_if_lt zi_44_27 (by omega) (fun c => ?_) (fun c => ?_)
        · refine z_iconst zi_44_30 ?_
          refine z_iload zi_44_31 rfl ?_
          refine z_iadd zi_44_32 ?_
          refine z_istore_n zi_44_33 rfl ?_
          refine z_loc (lv' := [(4, .int (zi (way * gB g n))), (6, .int (zi (gR g n))), (5, .int (zi n)), (3, .int (zi (way * gA g n))), (2, .int (zi (2 + (gR g n : Int)))), (0, .ref T), (1, .int (zi way))]) rfl ?_
          exact fin _ (by rw [yes ⟨q, Or.inl c⟩])
        · refine z_iload zi_44_28 rfl ?_
          refine z_if_ge zi_44_29 (by omega) (fun c2 => ?_) (fun c2 => ?_)
          · refine z_loc (lv' := [(4, .int (zi (way * gB g n))), (6, .int (zi (gR g n))), (5, .int (zi n)), (3, .int (zi (way * gA g n))), (2, .int (zi (match glk g way n with | some p => 2 + (gR g p : Int) | none => 0))), (0, .ref T), (1, .int (zi way))]) rfl ?_
            exact fin _ (by rw [no (fun z => by omega)])
          · refine z_iconst zi_44_30 ?_
            refine z_iload zi_44_31 rfl ?_
            refine z_iadd zi_44_32 ?_
            refine z_istore_n zi_44_33 rfl ?_
            refine z_loc (lv' := [(4, .int (zi (way * gB g n))), (6, .int (zi (gR g n))), (5, .int (zi n)), (3, .int (zi (way * gA g n))), (2, .int (zi (2 + (gR g n : Int)))), (0, .ref T), (1, .int (zi way))]) rfl ?_
            exact fin _ (by rw [yes ⟨q, Or.inr (by omega)⟩])
      · refine z_if_eq_t zi_44_25 (by omega) (by omega) ?_
        refine z_loc (lv' := [(4, .int (zi (way * gB g n))), (6, .int (zi (gR g n))), (5, .int (zi n)), (3, .int (zi (way * gA g n))), (2, .int (zi (match glk g way n with | some p => 2 + (gR g p : Int) | none => 0))), (0, .ref T), (1, .int (zi way))]) rfl ?_
        exact fin _ (by rw [no (fun z => q z.1)])
  refine z_iconst zi_44_0 ?_
  refine z_istore_n zi_44_1 rfl ?_
  refine z_iload_n zi_44_2 rfl ?_
  refine z_istore_n zi_44_3 rfl ?_
  refine z_iconst zi_44_4 ?_
  refine z_istore zi_44_5 rfl ?_
  refine z_iconst zi_44_6 ?_
  refine z_istore zi_44_7 rfl ?_
  refine z_loc (lv' := [(5, .int (zi ((0 : Nat) : Int))), (4, .int (zi 0)), (3, .int (zi way)), (2, .int (zi 0)), (0, .ref T), (1, .int (zi way))]) rfl ?_
  refine z_lv (lv' := [(5, .int (zi ((0 : Nat) : Int))), (4, .int (zi 0)), (3, .int (zi (way * gA g 0))), (2, .int (zi (match glk g way 0 with | some p => 2 + (gR g p : Int) | none => 0))), (0, .ref T), (1, .int (zi way))]) (by rw [gA_0, Int.mul_one]; rfl) ?_
  exact loop (gL g) 0 (by omega) 0 (fun q => by omega) (fun _ => rfl)
end
end
section
/-! a table: a turn, a lay, a lift, a copy -/
theorem zTB_Mx {T : Nat} {t : zMI} {g : zG} {m m' : Nat → Nat → Int} (h : zTB T t (gsM g m)) (e : ∀ s w, s < gN g → w < 2 → m' s w = m s w) : zTB T t (gsM g m') :=
  ⟨h.1, h.2.1, fun s w hs hw => ⟨(h.2.2.1 s w hs hw).1, (h.2.2.1 s w hs hw).2.trans (e s w hs hw).symm⟩, h.2.2.2.1, h.2.2.2.2⟩
theorem zTB_app {T : Nat} {t : zMI} {g : zG} (h : zTB T t g) (hw : gWF g) {s f : Nat} (hs : s < gN g) (hn : gP g s = none) :
    zTB T (zup (zup (zup (zup (zup (zup (zup t (T + 4) s (-4)) (T + 5) s (-4)) (T + 6) s (-4)) (T + 5) s (gL g)) (T + 6) s f) (T + 7) (gL g) s) T 7 ((gL g : Int) + 1)) (gsH (gapp g s f) (fup (gH g) s (-4))) := by
  have ePi : ∀ s', gPi (gsH (gapp g s f) (fup (gH g) s (-4))) s' = if s' = s then (gL g : Int) else gPi g s' := fun s' => by
    show (match gpl (fupN (gR g) (gL g) s) (gL g + 1) s' with | some p => (p : Int) | none => -4) = _
    show (match (if fupN (gR g) (gL g) s (gL g) = s' then some (gL g) else gpl (fupN (gR g) (gL g) s) (gL g) s') with | some p => (p : Int) | none => -4) = _
    have e1 : fupN (gR g) (gL g) s (gL g) = s := by unfold fupN; rw [if_pos rfl]
    have e2 : gpl (fupN (gR g) (gL g) s) (gL g) s' = gpl (gR g) (gL g) s' := gpl_congr (fun p hp => by unfold fupN; rw [if_neg (by omega)])
    rw [e1, e2]
    by_cases q : s' = s
    · rw [if_pos q.symm, if_pos q]
    · rw [if_neg (fun z => q z.symm), if_neg q]
      rfl
  have eFi : ∀ s', gFi (gsH (gapp g s f) (fup (gH g) s (-4))) s' = if s' = s then (f : Int) else gFi g s' := fun s' => by
    show (match gpl (fupN (gR g) (gL g) s) (gL g + 1) s' with | some p => (fupN (gF g) (gL g) f p : Int) | none => -4) = _
    show (match (if fupN (gR g) (gL g) s (gL g) = s' then some (gL g) else gpl (fupN (gR g) (gL g) s) (gL g) s') with | some p => (fupN (gF g) (gL g) f p : Int) | none => -4) = _
    have e1 : fupN (gR g) (gL g) s (gL g) = s := by unfold fupN; rw [if_pos rfl]
    have e2 : gpl (fupN (gR g) (gL g) s) (gL g) s' = gpl (gR g) (gL g) s' := gpl_congr (fun p hp => by unfold fupN; rw [if_neg (by omega)])
    rw [e1, e2]
    by_cases q : s' = s
    · rw [if_pos q.symm, if_pos q]
      show ((fupN (gF g) (gL g) f (gL g) : Nat) : Int) = _
      unfold fupN
      rw [if_pos rfl]
    · rw [if_neg (fun z => q z.symm), if_neg q]
      show (match gpl (gR g) (gL g) s' with | some p => (fupN (gF g) (gL g) f p : Int) | none => -4) = gFi g s'
      unfold gFi gP
      cases e : gpl (gR g) (gL g) s' with
      | none => rfl
      | some p =>
        have := (gpl_some e).1
        show ((fupN (gF g) (gL g) f p : Nat) : Int) = _
        unfold fupN
        rw [if_neg (by omega)]
  refine ⟨⟨?_, ?_, ?_, ?_⟩, fun s' hs' => ⟨?_, ?_, ?_, ?_⟩, fun s' w hs' hw' => ⟨?_, ?_⟩, fun p hp => ?_, ?_, ?_⟩
  · simp (disch := omega) only [zup_o, zup_n, zup_s]; exact h.n
  · simp (disch := omega) only [zup_o, zup_n, zup_s]; show (gL g : Int) + 1 = ((gL g + 1 : Nat) : Int); omega
  · simp (disch := omega) only [zup_o, zup_n, zup_s]; exact h.o
  · simp (disch := omega) only [zup_o, zup_n, zup_s]; exact h.d
  · simp (disch := omega) only [zup_o, zup_n, zup_s]; exact h.k hs'
  · simp (disch := omega) only [zup_o]
    rw [zup_at]
    show _ = fup (gH g) s (-4) s'
    unfold fup
    by_cases q : s' = s
    · rw [if_pos q, if_pos q]
    · rw [if_neg q, if_neg q]; exact h.h hs'
  · rw [ePi]
    simp (disch := omega) only [zup_o]
    rw [zup_at]
    by_cases q : s' = s
    · rw [if_pos q, if_pos q]
    · rw [if_neg q, if_neg q, zup_o (k := T + 5) (by omega), zup_at, if_neg q, zup_o (k := T + 5) (by omega)]
      exact h.p hs'
  · rw [eFi]
    simp (disch := omega) only [zup_o]
    rw [zup_at]
    by_cases q : s' = s
    · rw [if_pos q, if_pos q]
    · rw [if_neg q, if_neg q, zup_o (k := T + 6) (by omega), zup_at, if_neg q]
      simp (disch := omega) only [zup_o]
      exact h.f hs'
  · simp (disch := omega) only [zup_o]; exact h.t hs' hw'
  · simp (disch := omega) only [zup_o]; exact h.m hs' hw'
  · have hp' : p < gL g + 1 := hp
    simp (disch := omega) only [zup_o]
    rw [zup_at]
    show _ = ((fupN (gR g) (gL g) s p : Nat) : Int)
    unfold fupN
    by_cases q : p = gL g
    · rw [if_pos q, if_pos q]
    · rw [if_neg q, if_neg q]
      simp (disch := omega) only [zup_o]
      exact h.r (by omega)
  · simp (disch := omega) only [zup_o]; exact h.s (w := 0) (by omega)
  · simp (disch := omega) only [zup_o]; exact h.s (w := 1) (by omega)
theorem zTB_S {T : Nat} {t : zMI} {g : zG} (h : zTB T t g) {s : Nat} (hs : s < 2) (v : Int) : zTB T (zup t (T + 8) s v) (gsS g (fup (gS g) s v)) := by
  refine ⟨?_, ?_, ?_, ?_, ?_, ?_⟩
  · simp (disch := omega) only [zup_o]; exact h.1
  · simp (disch := omega) only [zup_o]; exact h.2.1
  · simp (disch := omega) only [zup_o]; exact h.2.2.1
  · simp (disch := omega) only [zup_o]; exact h.2.2.2.1
  · rw [zup_at]
    show _ = fup (gS g) s v 0
    unfold fup
    split
    · rfl
    · exact h.2.2.2.2.1
  · rw [zup_at]
    show _ = fup (gS g) s v 1
    unfold fup
    split
    · rfl
    · exact h.2.2.2.2.2
theorem zTB_Sx {T : Nat} {t : zMI} {g : zG} {f f' : Nat → Int} (h : zTB T t (gsS g f)) (e0 : f' 0 = f 0) (e1 : f' 1 = f 1) : zTB T t (gsS g f') :=
  ⟨h.1, h.2.1, h.2.2.1, h.2.2.2.1, h.2.2.2.2.1.trans e0.symm, h.2.2.2.2.2.trans e1.symm⟩
theorem gsH_wf {g : zG} {h : Nat → Int} (hw : gWF g) (hh : ∀ s, s < gN g → h s = -4 ∨ h s = 0 ∨ h s = 1) : gWF (gsH g h) := ⟨hw.1, hw.2.1, hw.2.2.1, hw.2.2.2.1, hw.2.2.2.2.1, hh, hw.2.2.2.2.2.2.1, hw.2.2.2.2.2.2.2⟩
theorem gsS_wf {g : zG} {h : Nat → Int} (hw : gWF g) : gWF (gsS g h) := hw
theorem glay_wf {g : zG} (h : gWF g) {s f : Nat} (hs : s < gN g) (hf : f < 2) (hn : gP g s = none) (ho : gO g = 0) : gWF (glay g s f) := by
  have h1 : gWF (gput g s f) := gput_wf h hs hf (gpl_none hn) ho
  refine gsH_wf (gsS_wf h1) (fun s' hs' => ?_)
  have hs2 : s' < gN g := by
    have e : gN (gsS (gput g s f) (fun h => if gH g s = (h : Int) then gS g h + gsc (gput g s f) else gS g h)) = gN g := by
      show gN (gpre g) = _
      rw [gpre_N]
    omega
  unfold fup
  split
  · omega
  · exact h.h hs2
theorem glay_wh {g : zG} (h : gWH g) {s f : Nat} : gWH (glay g s f) := by
  intro p hp
  have hp' : p < gL (gpre g) + 1 := hp
  rw [gpre_L] at hp'
  show fup (gH g) s (-4) (fupN (gR (gpre g)) (gL (gpre g)) s p) = -4
  rw [gpre_R, gpre_L]
  unfold fupN fup
  by_cases q : p = gL g
  · rw [if_pos q, if_pos rfl]
  · rw [if_neg q]
    split
    · rfl
    · exact h p (by omega)
theorem glay_L (g : zG) (s f : Nat) : gL (glay g s f) = gL g + 1 := by
  show gL (gpre g) + 1 = _
  rw [gpre_L]
theorem glay_N (g : zG) (s f : Nat) : gN (glay g s f) = gN g := by
  show gN (gpre g) = _
  rw [gpre_N]
theorem glay_O (g : zG) (s f : Nat) : gO (glay g s f) = gO g := by
  show gO (gpre g) = _
  unfold gpre
  split
  · rfl
  · split <;> rfl
theorem gsc_rng {g : zG} (h : gWF g) : 0 ≤ gsc g ∧ gsc g ≤ 24 := by
  have h1 := ghv_rng g (gL g)
  have h2 := h.n
  unfold gsc
  split <;> omega
section
variable {d T : Nat} {t : zMI} {g : zG} {K : Int → zMI → Prop} {Kv : zMI → Prop}
theorem s_turnWheel {a b v : Int} {s w : Nat} (hT : zTa T) (h : zTB T t g) (hw : gWF g) (ha : a = (s : Int)) (hs : s < gN g) (hb : b = (w : Int)) (hw2 : w < 2) (hv : -1000 ≤ v ∧ v ≤ 1000) (k : Kv (zup t (T + 3) (2 * s + w) ((gM g s w + v) % gT g s w))) : ZX (d + 2) 47 0 [(0, .ref T), (1, .int (zi a)), (2, .int (zi b)), (3, .int (zi v))] [] t (zKv Kv) := by
  have hn := hw.n
  have ht := hw.t hs hw2
  refine z_aload_n zi_47_0 rfl ?_
  refine z_iload_n zi_47_1 rfl ?_
  refine z_iload_n zi_47_2 rfl ?_
  refine z_aload_n zi_47_3 rfl ?_
  refine z_iload_n zi_47_4 rfl ?_
  refine z_iload_n zi_47_5 rfl ?_
  refine z_cv2i zi_47_6 rfl rfl (zt_c hT) ⟨rfl, Nat.le_of_ble_eq_true rfl, Nat.le_of_ble_eq_true rfl⟩ (s_markOf hT h hw ha hs hb hw2 ?_)
  refine z_iload_n zi_47_7 rfl ?_
  refine z_iadd zi_47_8 ?_
  refine z_aload_n zi_47_9 rfl ?_
  refine z_iload_n zi_47_10 rfl ?_
  refine z_iload_n zi_47_11 rfl ?_
  refine z_cv2i zi_47_12 rfl rfl (zt_c hT) ⟨rfl, Nat.le_of_ble_eq_true rfl, Nat.le_of_ble_eq_true rfl⟩ (s_teethOf hT h hw ha hs hb hw2 ?_)
  refine z_cs2i zi_47_13 rfl rfl ⟨by decide, rfl, Nat.le_of_ble_eq_true rfl, Nat.le_of_ble_eq_true rfl⟩ (s_remainder (by omega) (by omega) ?_)
  refine z_cv3v zi_47_14 rfl rfl rfl (zt_c hT) ⟨rfl, Nat.le_of_ble_eq_true rfl, Nat.le_of_ble_eq_true rfl⟩ (s_setMark hT ha (by omega) hb hw2 ?_)
  refine z_vreturn zi_47_15 rfl k
theorem s_turnTrain {b : Int} (hT : zTa T) (h : zTB T t g) (hw : gWF g) (hb : -99 ≤ b ∧ b ≤ 99) (k : ∀ t', zTB T t' (gturn g b) → zFr T t t' → Kv t') : ZX (d + 3) 46 0 [(0, .ref T), (1, .int (zi b))] [] t (zKv Kv) := by
  have hn := hw.n
  have loop : ∀ (j n : Nat), n + j = gL g → ∀ t', zTB T t' (gsM g (gtm g b n)) → zFr T t t' → ZX (d + 3) 46 4 [(3, .int (zi n)), (2, .int (zi (b * gA g n))), (0, .ref T)] [] t' (zKv Kv) := by
    intro j
    induction j with
    | zero =>
      intro n e t' h' hf
      have e1 : n = gL g := by omega
      subst e1
      refine z_iload_n zi_46_4 rfl ?_
      refine z_aload_n zi_46_5 rfl ?_
      refine z_getfield zi_46_6 (zt_f7 hT) ?_
      rw [h'.l]
      show ZX _ _ _ _ (.int (zi ((gL g : Nat) : Int)) :: _) _ _
      refine z_icmp_ge_t zi_46_7 (by omega) (by omega) ?_
      refine z_vreturn zi_46_36 rfl (k t' h' hf)
    | succ j ih =>
      intro n e t' h' hf
      have hw' : gWF (gsM g (gtm g b n)) := ⟨hw.1, hw.2.1, hw.2.2.1, hw.2.2.2.1, fun s w hs hw2 => ⟨(hw.t hs hw2).1, (hw.t hs hw2).2.1, (gtm_wf hw b n hs hw2).1, (gtm_wf hw b n hs hw2).2⟩, hw.2.2.2.2.2.1, hw.2.2.2.2.2.2.1, hw.2.2.2.2.2.2.2⟩
      have hr := hw.r (p := n) (by omega)
      have hap := gA_pm g n
      have hbp := gB_pm g n
      have hA : -99 ≤ b * gA g n ∧ b * gA g n ≤ 99 := by rcases hap with q | q <;> rw [q] <;> omega
      have hB : -99 ≤ b * gB g n ∧ b * gB g n ≤ 99 := by rcases hbp with q | q <;> rw [q] <;> omega
      have ePi : gP (gsM g (gtm g b n)) (gR g n) = some n := gPi_at hw' (p := n) (show n < gL g by omega)
      have eF : gFi (gsM g (gtm g b n)) (gR g n) = (gF g n : Int) := by unfold gFi; rw [ePi]; rfl
      have hl' : t' T 7 = (gL g : Int) := h'.l
      refine z_iload_n zi_46_4 rfl ?_
      refine z_aload_n zi_46_5 rfl ?_
      refine z_getfield zi_46_6 (zt_f7 hT) ?_
      rw [hl']
      refine z_icmp_ge_f zi_46_7 (by omega) (by omega) ?_
      refine z_aload_n zi_46_8 rfl ?_
      refine z_iload_n zi_46_9 rfl ?_
      refine z_cv1i zi_46_10 rfl (zt_c hT) ⟨rfl, Nat.le_of_ble_eq_true rfl, Nat.le_of_ble_eq_true rfl⟩ (s_stoneInTrain (p := n) hT h' hw' rfl (show n < gL g by omega) ?_)
      refine z_istore zi_46_11 rfl ?_
      refine z_aload_n zi_46_12 rfl ?_
      refine z_iload zi_46_13 rfl ?_
      refine z_aload_n zi_46_14 rfl ?_
      refine z_iload zi_46_15 rfl ?_
      refine z_cv1i zi_46_16 rfl (zt_c hT) ⟨rfl, Nat.le_of_ble_eq_true rfl, Nat.le_of_ble_eq_true rfl⟩ (s_frontOf (s := gR g n) hT h' hw' rfl hr.1 ?_)
      rw [eF]
      refine z_iload_n zi_46_17 rfl ?_
      refine z_cv3v zi_46_18 rfl rfl rfl (zt_c hT) ⟨rfl, Nat.le_of_ble_eq_true rfl, Nat.le_of_ble_eq_true rfl⟩ (s_turnWheel (s := gR g n) (w := gF g n) hT h' hw' rfl hr.1 rfl hr.2 (by omega) ?_)
      have h1 := zTB_M h' hr.2 ((gM (gsM g (gtm g b n)) (gR g n) (gF g n) + b * gA g n) % gT (gsM g (gtm g b n)) (gR g n) (gF g n)) (s := gR g n)
      have f1 := hf.up (b := T + 3) (n := 2 * gR g n + gF g n) (v := (gM (gsM g (gtm g b n)) (gR g n) (gF g n) + b * gA g n) % gT (gsM g (gtm g b n)) (gR g n) (gF g n)) (by omega)
      have em : gM (gsM g (gtm g b n)) (gR g n) (gF g n) = gM g (gR g n) (gF g n) := gtm_new hw (by omega)
      have em2 : gM (gsM g (gtm g b n)) (gR g n) (1 - gF g n) = gM g (gR g n) (1 - gF g n) := gtm_new hw (by omega)
      rw [em] at h1 f1 ⊢
      generalize ht1 : zup t' (T + 3) (2 * gR g n + gF g n) ((gM g (gR g n) (gF g n) + b * gA g n) % gT (gsM g (gtm g b n)) (gR g n) (gF g n)) = t1 at h1 f1 ⊢
      have ht0 := hw.t hr.1 hr.2
      have hw1 : gWF (gsM (gsM g (gtm g b n)) (fup2 (gM (gsM g (gtm g b n))) (gR g n) (gF g n) ((gM g (gR g n) (gF g n) + b * gA g n) % gT (gsM g (gtm g b n)) (gR g n) (gF g n)))) := by
        refine ⟨hw.1, hw.2.1, hw.2.2.1, hw.2.2.2.1, fun s w hs hw2 => ⟨(hw.t hs hw2).1, (hw.t hs hw2).2.1, ?_⟩, hw.2.2.2.2.2.1, hw.2.2.2.2.2.2.1, hw.2.2.2.2.2.2.2⟩
        show 0 ≤ fup2 (gtm g b n) (gR g n) (gF g n) ((gM g (gR g n) (gF g n) + b * gA g n) % gT g (gR g n) (gF g n)) s w ∧ fup2 (gtm g b n) (gR g n) (gF g n) ((gM g (gR g n) (gF g n) + b * gA g n) % gT g (gR g n) (gF g n)) s w < gT g s w
        unfold fup2
        split
        · rename_i q
          rw [q.1, q.2]
          exact ⟨Int.emod_nonneg _ (by omega), Int.emod_lt_of_pos _ (by omega)⟩
        · exact gtm_wf hw b n hs hw2
      refine z_aload_n zi_46_19 rfl ?_
      refine z_iload zi_46_20 rfl ?_
      refine z_iload_n zi_46_21 rfl ?_
      refine z_cv2i zi_46_22 rfl rfl (zt_c hT) ⟨rfl, Nat.le_of_ble_eq_true rfl, Nat.le_of_ble_eq_true rfl⟩ (s_backWay (p := n) hT h1 hw1 (show n < gL g by omega) rfl ?_)
      have e2 : (if gK g (gR g n) = 2 then b * gA g n else -(b * gA g n)) = b * gB g n := by
        rw [gB_eq g n]
        split
        · rfl
        · rw [Int.mul_neg]
      refine z_top e2 ?_
      refine z_istore_n zi_46_23 rfl ?_
      refine z_aload_n zi_46_24 rfl ?_
      refine z_iload zi_46_25 rfl ?_
      refine z_aload_n zi_46_26 rfl ?_
      refine z_iload zi_46_27 rfl ?_
      refine z_cv1i zi_46_28 rfl (zt_c hT) ⟨rfl, Nat.le_of_ble_eq_true rfl, Nat.le_of_ble_eq_true rfl⟩ (s_backOf (s := gR g n) hT h1 hw1 rfl hr.1 ?_)
      have eF1 : 1 - gFi (gsM (gsM g (gtm g b n)) (fup2 (gM (gsM g (gtm g b n))) (gR g n) (gF g n) ((gM g (gR g n) (gF g n) + b * gA g n) % gT (gsM g (gtm g b n)) (gR g n) (gF g n)))) (gR g n) = ((1 - gF g n : Nat) : Int) := by
        have : gFi (gsM (gsM g (gtm g b n)) (fup2 (gM (gsM g (gtm g b n))) (gR g n) (gF g n) ((gM g (gR g n) (gF g n) + b * gA g n) % gT (gsM g (gtm g b n)) (gR g n) (gF g n)))) (gR g n) = gFi (gsM g (gtm g b n)) (gR g n) := rfl
        rw [this, eF]
        omega
      refine z_top eF1 ?_
      refine z_iload_n zi_46_29 rfl ?_
      refine z_cv3v zi_46_30 rfl rfl rfl (zt_c hT) ⟨rfl, Nat.le_of_ble_eq_true rfl, Nat.le_of_ble_eq_true rfl⟩ (s_turnWheel (s := gR g n) (w := 1 - gF g n) hT h1 hw1 rfl hr.1 rfl (by omega) (by omega) ?_)
      have e3 : gM (gsM (gsM g (gtm g b n)) (fup2 (gM (gsM g (gtm g b n))) (gR g n) (gF g n) ((gM g (gR g n) (gF g n) + b * gA g n) % gT (gsM g (gtm g b n)) (gR g n) (gF g n)))) (gR g n) (1 - gF g n) = gM g (gR g n) (1 - gF g n) := by
        show fup2 (gtm g b n) (gR g n) (gF g n) _ (gR g n) (1 - gF g n) = _
        unfold fup2
        rw [if_neg (by omega)]
        exact em2
      rw [e3]
      have h2 := zTB_M h1 (w := 1 - gF g n) (by omega) ((gM g (gR g n) (1 - gF g n) + b * gB g n) % gT g (gR g n) (1 - gF g n)) (s := gR g n)
      have f2 := f1.up (b := T + 3) (n := 2 * gR g n + (1 - gF g n)) (v := (gM g (gR g n) (1 - gF g n) + b * gB g n) % gT g (gR g n) (1 - gF g n)) (by omega)
      refine z_iload_n zi_46_31 rfl ?_
      refine z_ineg zi_46_32 ?_
      refine z_istore_n zi_46_33 rfl ?_
      refine z_iinc zi_46_34 rfl rfl ?_
      refine z_goto zi_46_35 ?_
      have e5 : -(b * gB g n) = b * gA g (n + 1) := by rw [gA_s, Int.mul_neg]
      rw [e5]
      refine z_loc (lv' := [(3, .int (zi ((n + 1 : Nat) : Int))), (2, .int (zi (b * gA g (n + 1)))), (0, .ref T)]) rfl ?_
      refine ih (n + 1) (by omega) _ (zTB_Mx h2 (fun s w hs hw2 => ?_)) f2
      show gtm g b (n + 1) s w = fup2 (fup2 (gtm g b n) (gR g n) (gF g n) ((gM g (gR g n) (gF g n) + b * gA g n) % gT g (gR g n) (gF g n))) (gR g n) (1 - gF g n) ((gM g (gR g n) (1 - gF g n) + b * gB g n) % gT g (gR g n) (1 - gF g n)) s w
      rw [gtm_step]
      unfold fup2
      by_cases q : s = gR g n
      · rw [if_pos q]
        by_cases q2 : w = gF g n
        · rw [if_pos q2, if_neg (by omega), if_pos ⟨q, q2⟩, q, q2]
        · rw [if_neg q2, if_pos (by omega), q, show w = 1 - gF g n by omega]
      · rw [if_neg q, if_neg (fun z => q z.1), if_neg (fun z => q z.1)]
  refine z_iload_n zi_46_0 rfl ?_
  refine z_istore_n zi_46_1 rfl ?_
  refine z_iconst zi_46_2 ?_
  refine z_istore_n zi_46_3 rfl ?_
  refine z_loc (lv' := [(3, .int (zi ((0 : Nat) : Int))), (2, .int (zi b)), (0, .ref T)]) rfl ?_
  refine z_lv (lv' := [(3, .int (zi ((0 : Nat) : Int))), (2, .int (zi (b * gA g 0))), (0, .ref T)]) (by rw [gA_0, Int.mul_one]) ?_
  exact loop (gL g) 0 (by omega) t (zTB_Mx (g := g) (m := gM g) h (fun s w _ _ => rfl)) zFr.rf
end
end
section
section
variable {d T : Nat} {t : zMI} {g : zG} {K : Int → zMI → Prop} {Kv : zMI → Prop}
theorem gup_c {g g' : zG} (hm : gM g' = gM g) (hr : gR g' = gR g) : ∀ n, gup g' n = gup g n
  | 0 => rfl
  | n + 1 => by
    show gup g' n + ((if gM g' (gR g' n) 0 = 0 then 1 else 0) + (if gM g' (gR g' n) 1 = 0 then 1 else 0)) = gup g n + ((if gM g (gR g n) 0 = 0 then 1 else 0) + (if gM g (gR g n) 1 = 0 then 1 else 0))
    rw [hm, hr, gup_c hm hr n]
theorem ghv_c {g g' : zG} (hm : gK g' = gK g) (hr : gR g' = gR g) : ∀ n, ghv g' n = ghv g n
  | 0 => rfl
  | n + 1 => by
    show ghv g' n + (if gK g' (gR g' n) = 3 then 1 else 0) = ghv g n + (if gK g (gR g n) = 3 then 1 else 0)
    rw [hm, hr, ghv_c hm hr n]
theorem gsc_c {g g' : zG} (hl : gL g' = gL g) (hk : gK g' = gK g) (hm : gM g' = gM g) (hr : gR g' = gR g) : gsc g' = gsc g := by
  unfold gsc
  rw [hl, gup_c hm hr, ghv_c hk hr]
theorem gturn_0 {g : zG} (h : gL g = 0) (b : Int) : gturn g b = g := by
  have e : gtm g b (gL g) = gM g := by
    rw [h]
    rfl
  unfold gturn
  rw [e]
  rfl
theorem s_layDown {a b : Int} {s f : Nat} (hT : zTa T) (h : zTB T t g) (hw : gWF g) (ha : a = (s : Int)) (hs : s < gN g) (hb : b = (f : Int)) (hf : f < 2) (hn : gP g s = none) (ho : gO g = 0) (k : ∀ t', zTB T t' (glay g s f) → zFr T t t' → K (gsc (gput g s f)) t') : ZX (d + 4) 37 0 [(0, .ref T), (1, .int (zi a)), (2, .int (zi b))] [] t (zKi K) := by
  have hn12 := hw.n
  subst ha hb
  have hlt : gL g < gN g := by
    have := (gput_wf hw hs hf (gpl_none hn) ho).n
    have e1 : gL (gput g s f) = gL g + 1 := by show gL (gpre g) + 1 = _; rw [gpre_L]
    have e2 : gN (gput g s f) = gN g := by show gN (gpre g) = _; rw [gpre_N]
    omega
  have rest : ∀ t1 way, zTB T t1 (gpre g) → zFr T t t1 → ZX (d + 4) 37 10 [(3, .int (zi way)), (0, .ref T), (1, .int (zi s)), (2, .int (zi f))] [] t1 (zKi K) := by
    intro t1 way h1 f1
    have w1 := gpre_wf hw
    have hs1 : s < gN (gpre g) := by rw [gpre_N]; exact hs
    have hn1 : gP (gpre g) s = none := by show gpl (gR (gpre g)) (gL (gpre g)) s = none; rw [gpre_R, gpre_L]; exact hn
    have hL1 : gL (gpre g) = gL g := gpre_L g
    have hh := hw.h hs
    refine z_aload_n zi_37_10 rfl ?_
    refine z_iload_n zi_37_11 rfl ?_
    refine z_cv1i zi_37_12 rfl (zt_c hT) ⟨rfl, Nat.le_of_ble_eq_true rfl, Nat.le_of_ble_eq_true rfl⟩ (s_handOf (s := s) hT h1 w1 rfl hs1 ?_)
    rw [gpre_H]
    refine z_istore zi_37_13 rfl ?_
    refine z_aload_n zi_37_14 rfl ?_
    refine z_iload_n zi_37_15 rfl ?_
    refine z_cv1v zi_37_16 rfl (zt_c hT) ⟨rfl, Nat.le_of_ble_eq_true rfl, Nat.le_of_ble_eq_true rfl⟩ (s_setNotLaid (s := s) hT rfl (by omega) ?_)
    refine z_aload_n zi_37_17 rfl ?_
    refine z_getfield zi_37_18 (zt_f5 hT) ?_
    refine z_iload_n zi_37_19 rfl ?_
    refine z_aload_n zi_37_20 rfl ?_
    refine z_getfield zi_37_21 (zt_f7 hT) ?_
    simp (disch := omega) only [zup_o]
    rw [h1.l]
    refine z_cs3v zi_37_22 rfl rfl rfl ⟨by decide, rfl, Nat.le_of_ble_eq_true rfl, Nat.le_of_ble_eq_true rfl⟩ (s_put (n := s) (zt_a5 hT) (by omega) rfl (by omega) ?_)
    refine z_aload_n zi_37_23 rfl ?_
    refine z_getfield zi_37_24 (zt_f6 hT) ?_
    refine z_iload_n zi_37_25 rfl ?_
    refine z_iload_n zi_37_26 rfl ?_
    refine z_cs3v zi_37_27 rfl rfl rfl ⟨by decide, rfl, Nat.le_of_ble_eq_true rfl, Nat.le_of_ble_eq_true rfl⟩ (s_put (n := s) (zt_a6 hT) (by omega) rfl (by omega) ?_)
    refine z_aload_n zi_37_28 rfl ?_
    refine z_getfield zi_37_29 (zt_f8 hT) ?_
    refine z_aload_n zi_37_30 rfl ?_
    refine z_getfield zi_37_31 (zt_f7 hT) ?_
    simp (disch := omega) only [zup_o]
    rw [h1.l]
    refine z_iload_n zi_37_32 rfl ?_
    refine z_cs3v zi_37_33 rfl rfl rfl ⟨by decide, rfl, Nat.le_of_ble_eq_true rfl, Nat.le_of_ble_eq_true rfl⟩ (s_put (n := gL (gpre g)) (zt_a7 hT) (by omega) rfl (by omega) ?_)
    refine z_aload_n zi_37_34 rfl ?_
    refine z_dup zi_37_35 rfl ?_
    refine z_getfield zi_37_36 (zt_f7 hT) ?_
    simp (disch := omega) only [zup_o]
    rw [h1.l]
    refine z_iconst zi_37_37 ?_
    refine z_iadd zi_37_38 ?_
    refine z_putfield zi_37_39 (zt_i7 hT) (Or.inl rfl) ?_
    have h2 := zTB_app h1 w1 (f := f) hs1 hn1
    have f2 : zFr T t1 (zup (zup (zup (zup (zup (zup (zup t1 (T + 4) s (-4)) (T + 5) s (-4)) (T + 6) s (-4)) (T + 5) s (gL (gpre g))) (T + 6) s f) (T + 7) (gL (gpre g)) s) T 7 ((gL (gpre g) : Int) + 1)) := by
      refine zFr.up (zFr.up (zFr.up (zFr.up (zFr.up (zFr.up (zFr.up zFr.rf ?_) ?_) ?_) ?_) ?_) ?_) ?_ <;> omega
    generalize (zup (zup (zup (zup (zup (zup (zup t1 (T + 4) s (-4)) (T + 5) s (-4)) (T + 6) s (-4)) (T + 5) s (gL (gpre g))) (T + 6) s f) (T + 7) (gL (gpre g)) s) T 7 ((gL (gpre g) : Int) + 1)) = t2 at h2 f2 ⊢
    have w2 : gWF (gsH (gapp (gpre g) s f) (fup (gH (gpre g)) s (-4))) := gsH_wf (gput_wf hw hs hf (gpl_none hn) ho) (fun s' hs' => by
      unfold fup
      split
      · omega
      · exact w1.h hs')
    refine z_aload_n zi_37_40 rfl ?_
    refine z_cv0i zi_37_41  (zt_c hT) ⟨rfl, Nat.le_of_ble_eq_true rfl, Nat.le_of_ble_eq_true rfl⟩ (s_scoreNow hT h2 w2 ?_)
    have esc : gsc (gsH (gapp (gpre g) s f) (fup (gH (gpre g)) s (-4))) = gsc (gput g s f) := gsc_c rfl rfl rfl rfl
    rw [esc]
    refine z_istore zi_37_42 rfl ?_
    refine z_iload zi_37_43 rfl ?_
    have fin : ∀ t3, zTB T t3 (glay g s f) → zFr T t2 t3 → ZX (d + 4) 37 55 [(5, .int (zi (gsc (gput g s f)))), (4, .int (zi (gH g s))), (3, .int (zi way)), (0, .ref T), (1, .int (zi s)), (2, .int (zi f))] [] t3 (zKi K) := by
      intro t3 h3 f3
      refine z_iload zi_37_55 rfl ?_
      refine z_ireturn zi_37_56 rfl (k t3 h3 ((f1.tr f2).tr f3))
    have eH : gH (gpre g) = gH g := gpre_H g
    have eS : gS (gpre g) = gS g := gpre_S g
    refine z_cs1i zi_37_44 rfl ⟨by decide, rfl, Nat.le_of_ble_eq_true rfl, Nat.le_of_ble_eq_true rfl⟩ (s_isHand (by omega) (fun q => ?_) (fun q => ?_))
    · refine z_if_eq_f zi_37_45 (by omega) (by omega) ?_
      obtain ⟨hd, ehd⟩ : ∃ hd : Nat, gH g s = (hd : Int) := ⟨(gH g s).toNat, by omega⟩
      refine z_aload_n zi_37_46 rfl ?_
      refine z_getfield zi_37_47 (zt_f10 hT) ?_
      refine z_iload zi_37_48 rfl ?_
      refine z_aload_n zi_37_49 rfl ?_
      refine z_iload zi_37_50 rfl ?_
      refine z_cv1i zi_37_51 rfl (zt_c hT) ⟨rfl, Nat.le_of_ble_eq_true rfl, Nat.le_of_ble_eq_true rfl⟩ (s_scoreOf (s := hd) hT h2 ehd (by omega) ?_)
      refine z_iload zi_37_52 rfl ?_
      refine z_iadd zi_37_53 ?_
      refine z_cs3v zi_37_54 rfl rfl rfl ⟨by decide, rfl, Nat.le_of_ble_eq_true rfl, Nat.le_of_ble_eq_true rfl⟩ (s_put (n := hd) (zt_a8 hT) (by omega) ehd (by omega) ?_)
      refine z_loc (lv' := [(5, .int (zi (gsc (gput g s f)))), (4, .int (zi (gH g s))), (3, .int (zi way)), (0, .ref T), (1, .int (zi s)), (2, .int (zi f))]) rfl ?_
      refine fin _ ?_ (zFr.rf.up (by omega))
      have h3 := zTB_S h2 (s := hd) (by omega) (gS (gsH (gapp (gpre g) s f) (fup (gH (gpre g)) s (-4))) hd + gsc (gput g s f))
      have h4 := zTB_Sx (f' := fun h => if gH g s = (h : Int) then gS g h + gsc (gput g s f) else gS g h) h3 (by
        show (if gH g s = ((0 : Nat) : Int) then gS g 0 + gsc (gput g s f) else gS g 0) = fup (gS (gpre g)) hd (gS (gpre g) hd + gsc (gput g s f)) 0
        unfold fup
        rw [eS]
        by_cases z : hd = 0
        · rw [if_pos (by omega), if_pos z.symm, z]
        · rw [if_neg (by omega), if_neg (fun y => z y.symm)]) (by
        show (if gH g s = ((1 : Nat) : Int) then gS g 1 + gsc (gput g s f) else gS g 1) = fup (gS (gpre g)) hd (gS (gpre g) hd + gsc (gput g s f)) 1
        unfold fup
        rw [eS]
        by_cases z : hd = 1
        · rw [if_pos (by omega), if_pos z.symm, z]
        · rw [if_neg (by omega), if_neg (fun y => z y.symm)])
      rw [eH] at h4
      exact h4
    · refine z_if_eq_t zi_37_45 (by omega) (by omega) ?_
      refine z_loc (lv' := [(5, .int (zi (gsc (gput g s f)))), (4, .int (zi (gH g s))), (3, .int (zi way)), (0, .ref T), (1, .int (zi s)), (2, .int (zi f))]) rfl ?_
      refine fin _ ?_ zFr.rf
      have h4 := zTB_Sx (g := gsH (gapp (gpre g) s f) (fup (gH (gpre g)) s (-4))) (f := gS (gsH (gapp (gpre g) s f) (fup (gH (gpre g)) s (-4)))) (f' := fun h => if gH g s = (h : Int) then gS g h + gsc (gput g s f) else gS g h) h2 (by
        show (if gH g s = ((0 : Nat) : Int) then gS g 0 + gsc (gput g s f) else gS g 0) = gS (gpre g) 0
        rw [eS, if_neg (by omega)]) (by
        show (if gH g s = ((1 : Nat) : Int) then gS g 1 + gsc (gput g s f) else gS g 1) = gS (gpre g) 1
        rw [eS, if_neg (by omega)])
      rw [eH] at h4
      exact h4
  refine z_aload_n zi_37_0 rfl ?_
  by_cases hL : gL g = 0
  · refine z_cv0i zi_37_1  (zt_c hT) ⟨rfl, Nat.le_of_ble_eq_true rfl, Nat.le_of_ble_eq_true rfl⟩ (s_lastBackWay0 hT h hL ?_)
    refine z_istore_n zi_37_2 rfl ?_
    refine z_aload_n zi_37_3 rfl ?_
    refine z_iload_n zi_37_4 rfl ?_
    have e0 : gLk g (-1) = 0 := by
      unfold gLk
      rw [if_neg (by omega), hL]
      rfl
    refine z_cv1i zi_37_5 rfl (zt_c hT) ⟨rfl, Nat.le_of_ble_eq_true rfl, Nat.le_of_ble_eq_true rfl⟩ (s_lockOf hT h hw (Or.inr rfl) ?_)
    rw [e0]
    refine z_if_ne_f zi_37_6 (by omega) (by omega) ?_
    refine z_aload_n zi_37_7 rfl ?_
    refine z_iload_n zi_37_8 rfl ?_
    refine z_cv1v zi_37_9 rfl (zt_c hT) ⟨rfl, Nat.le_of_ble_eq_true rfl, Nat.le_of_ble_eq_true rfl⟩ (s_turnTrain hT h hw (by omega) (fun t1 h1 f1 => ?_))
    rw [gturn_0 hL] at h1
    refine z_loc (lv' := [(3, .int (zi (-1))), (0, .ref T), (1, .int (zi s)), (2, .int (zi f))]) rfl ?_
    exact rest t1 _ (by unfold gpre; rw [if_pos hL]; exact h1) f1
  · have hB := gB_pm g (gL g - 1)
    have hlr := gLk_rng hw (gB g (gL g - 1))
    refine z_cv0i zi_37_1  (zt_c hT) ⟨rfl, Nat.le_of_ble_eq_true rfl, Nat.le_of_ble_eq_true rfl⟩ (s_lastBackWay hT h hw (by omega) ?_)
    refine z_istore_n zi_37_2 rfl ?_
    refine z_aload_n zi_37_3 rfl ?_
    refine z_iload_n zi_37_4 rfl ?_
    refine z_cv1i zi_37_5 rfl (zt_c hT) ⟨rfl, Nat.le_of_ble_eq_true rfl, Nat.le_of_ble_eq_true rfl⟩ (s_lockOf hT h hw hB ?_)
    refine z_if_ne zi_37_6 (by omega) (fun c => ?_) (fun c => ?_)
    · refine z_loc (lv' := [(3, .int (zi (gB g (gL g - 1)))), (0, .ref T), (1, .int (zi s)), (2, .int (zi f))]) rfl ?_
      exact rest t _ (by unfold gpre; rw [if_neg hL, if_neg c]; exact h) zFr.rf
    · refine z_aload_n zi_37_7 rfl ?_
      refine z_iload_n zi_37_8 rfl ?_
      refine z_cv1v zi_37_9 rfl (zt_c hT) ⟨rfl, Nat.le_of_ble_eq_true rfl, Nat.le_of_ble_eq_true rfl⟩ (s_turnTrain hT h hw (by omega) (fun t1 h1 f1 => ?_))
      refine z_loc (lv' := [(3, .int (zi (gB g (gL g - 1)))), (0, .ref T), (1, .int (zi s)), (2, .int (zi f))]) rfl ?_
      exact rest t1 _ (by unfold gpre; rw [if_neg hL, if_pos (by omega)]; exact h1) f1
theorem s_lastTeeth (hT : zTa T) (h : zTB T t g) (hw : gWF g) (hL : 0 < gL g) (k : K (gT g (gR g (gL g - 1)) (1 - gF g (gL g - 1))) t) : ZX (d + 1) 32 0 [(0, .ref T)] [] t (zKi K) := by
  have hn := hw.n
  have hr := hw.r (p := gL g - 1) (by omega)
  have eF : gFi g (gR g (gL g - 1)) = (gF g (gL g - 1) : Int) := by
    unfold gFi
    rw [gPi_at hw (show gL g - 1 < gL g by omega)]
  refine z_aload_n zi_32_0 rfl ?_
  refine z_getfield zi_32_1 (zt_f8 hT) ?_
  refine z_aload_n zi_32_2 rfl ?_
  refine z_getfield zi_32_3 (zt_f7 hT) ?_
  rw [h.l]
  refine z_iconst zi_32_4 ?_
  refine z_isub zi_32_5 ?_
  refine z_cs2i zi_32_6 rfl rfl ⟨by decide, rfl, Nat.le_of_ble_eq_true rfl, Nat.le_of_ble_eq_true rfl⟩ (s_at (n := gL g - 1) (zt_a7 hT) (by omega) (by omega) (by omega) ?_)
  rw [h.r (show gL g - 1 < gL g by omega)]
  refine z_istore_n zi_32_7 rfl ?_
  refine z_aload_n zi_32_8 rfl ?_
  refine z_getfield zi_32_9 (zt_f2 hT) ?_
  refine z_iconst zi_32_10 ?_
  refine z_iload_n zi_32_11 rfl ?_
  refine z_imul zi_32_12 ?_
  refine z_iconst zi_32_13 ?_
  refine z_iadd zi_32_14 ?_
  refine z_aload_n zi_32_15 rfl ?_
  refine z_getfield zi_32_16 (zt_f6 hT) ?_
  refine z_iload_n zi_32_17 rfl ?_
  refine z_cs2i zi_32_18 rfl rfl ⟨by decide, rfl, Nat.le_of_ble_eq_true rfl, Nat.le_of_ble_eq_true rfl⟩ (s_at (n := gR g (gL g - 1)) (zt_a6 hT) (by omega) rfl (by omega) ?_)
  rw [h.f hr.1, eF]
  refine z_isub zi_32_19 ?_
  refine z_cs2i zi_32_20 rfl rfl ⟨by decide, rfl, Nat.le_of_ble_eq_true rfl, Nat.le_of_ble_eq_true rfl⟩ (s_at (n := 2 * gR g (gL g - 1) + (1 - gF g (gL g - 1))) (zt_a2 hT) (by omega) (by omega) (by omega) ?_)
  rw [h.t hr.1 (by omega)]
  refine z_ireturn zi_32_21 rfl k
theorem s_areNear {a b : Int} (ha : -100 ≤ a ∧ a ≤ 100) (hb : -100 ≤ b ∧ b ≤ 100) (kt : -1 ≤ a - b ∧ a - b ≤ 1 → K 1 t) (kf : ¬ (-1 ≤ a - b ∧ a - b ≤ 1) → K 0 t) : ZX (d + 1) 33 0 [(0, .int (zi a)), (1, .int (zi b))] [] t (zKi K) := by
  refine z_iload_n zi_33_0 rfl ?_
  refine z_iload_n zi_33_1 rfl ?_
  refine z_isub zi_33_2 ?_
  refine z_cs1i zi_33_3 rfl ⟨by decide, rfl, Nat.le_of_ble_eq_true rfl, Nat.le_of_ble_eq_true rfl⟩ (s_abs (by omega) ?_)
  by_cases c : 0 ≤ a - b
  · rw [if_pos c]
    refine z_iconst zi_33_4 ?_
    refine z_icmp_gt zi_33_5 (by omega) (fun c2 => ?_) (fun c2 => ?_)
    · refine z_iconst zi_33_8 ?_
      refine z_zreturn zi_33_9 rfl (by omega) (kf (by omega))
    · refine z_iconst zi_33_6 ?_
      refine z_goto zi_33_7 ?_
      refine z_zreturn zi_33_9 rfl (by omega) (kt (by omega))
  · rw [if_neg c]
    refine z_iconst zi_33_4 ?_
    refine z_icmp_gt zi_33_5 (by omega) (fun c2 => ?_) (fun c2 => ?_)
    · refine z_iconst zi_33_8 ?_
      refine z_zreturn zi_33_9 rfl (by omega) (kf (by omega))
    · refine z_iconst zi_33_6 ?_
      refine z_goto zi_33_7 ?_
      refine z_zreturn zi_33_9 rfl (by omega) (kt (by omega))
theorem s_fits {a b : Int} {s f : Nat} (hT : zTa T) (h : zTB T t g) (hw : gWF g) (ha : a = (s : Int)) (hs : s < gN g) (hb : b = (f : Int)) (hf : f < 2) (kt : gfit g s f → K 1 t) (kf : ¬ gfit g s f → K 0 t) : ZX (d + 2) 34 0 [(0, .ref T), (1, .int (zi a)), (2, .int (zi b))] [] t (zKi K) := by
  have hn := hw.n
  refine z_aload_n zi_34_0 rfl ?_
  refine z_getfield zi_34_1 (zt_f7 hT) ?_
  rw [h.l]
  refine z_if_eq zi_34_2 (by omega) (fun c => ?_) (fun c => ?_)
  · refine z_iconst zi_34_11 ?_
    refine z_goto zi_34_12 ?_
    refine z_zreturn zi_34_14 rfl (by omega) (kt (Or.inl (by omega)))
  · have hL : 0 < gL g := by omega
    have hr := hw.r (p := gL g - 1) (by omega)
    have h1 := hw.t hs hf
    have h2 := hw.t hr.1 (show 1 - gF g (gL g - 1) < 2 by omega)
    refine z_aload_n zi_34_3 rfl ?_
    refine z_iload_n zi_34_4 rfl ?_
    refine z_iload_n zi_34_5 rfl ?_
    refine z_cv2i zi_34_6 rfl rfl (zt_c hT) ⟨rfl, Nat.le_of_ble_eq_true rfl, Nat.le_of_ble_eq_true rfl⟩ (s_teethOf hT h hw ha hs hb hf ?_)
    refine z_aload_n zi_34_7 rfl ?_
    refine z_cv0i zi_34_8  (zt_c hT) ⟨rfl, Nat.le_of_ble_eq_true rfl, Nat.le_of_ble_eq_true rfl⟩ (s_lastTeeth hT h hw hL ?_)
    refine z_cs2i zi_34_9 rfl rfl ⟨by decide, rfl, Nat.le_of_ble_eq_true rfl, Nat.le_of_ble_eq_true rfl⟩ (s_areNear (by omega) (by omega) (fun q => ?_) (fun q => ?_))
    · refine z_if_eq_f zi_34_10 (by omega) (by omega) ?_
      refine z_iconst zi_34_11 ?_
      refine z_goto zi_34_12 ?_
      refine z_zreturn zi_34_14 rfl (by omega) (kt (Or.inr q))
    · refine z_if_eq_t zi_34_10 (by omega) (by omega) ?_
      refine z_iconst zi_34_13 ?_
      refine z_zreturn zi_34_14 rfl (by omega) (kf (fun z => by rcases z with z | z; omega; exact q z))
theorem s_mayLay {hd a : Int} {n : Nat} (hT : zTa T) (h : zTB T t g) (hw : gWF g) (hh : hd = 0 ∨ hd = 1) (ha : a = (n : Int)) (hn2 : n < 24) (kt : n / 2 < gN g → gH g (n / 2) = hd → gfit g (n / 2) (n % 2) → K 1 t) (kf : ¬ (n / 2 < gN g ∧ gH g (n / 2) = hd ∧ gfit g (n / 2) (n % 2)) → K 0 t) : ZX (d + 3) 35 0 [(0, .ref T), (1, .int (zi hd)), (2, .int (zi a))] [] t (zKi K) := by
  have hn := hw.n
  subst ha
  have e1 : (n : Int).tdiv 2 = ((n / 2 : Nat) : Int) := (Int.ofNat_tdiv n 2).symm
  have e2 : (n : Int).tmod 2 = ((n % 2 : Nat) : Int) := (Int.ofNat_tmod n 2).symm
  refine z_iload_n zi_35_0 rfl ?_
  refine z_iconst zi_35_1 ?_
  refine z_idiv zi_35_2 (by omega) ?_
  rw [e1]
  refine z_istore_n zi_35_3 rfl ?_
  refine z_aload_n zi_35_4 rfl ?_
  refine z_iload_n zi_35_5 rfl ?_
  refine z_cv1i zi_35_6 rfl (zt_c hT) ⟨rfl, Nat.le_of_ble_eq_true rfl, Nat.le_of_ble_eq_true rfl⟩ (s_hasStone hT h hw (by omega) (fun q => ?_) (fun q => ?_))
  · have hs : n / 2 < gN g := by omega
    have hh2 := hw.h hs
    refine z_if_eq_f zi_35_7 (by omega) (by omega) ?_
    refine z_aload_n zi_35_8 rfl ?_
    refine z_iload_n zi_35_9 rfl ?_
    refine z_cv1i zi_35_10 rfl (zt_c hT) ⟨rfl, Nat.le_of_ble_eq_true rfl, Nat.le_of_ble_eq_true rfl⟩ (s_handOf (s := n / 2) hT h hw rfl hs ?_)
    refine z_iload_n zi_35_11 rfl ?_
    refine z_icmp_ne zi_35_12 (by omega) (fun c => ?_) (fun c => ?_)
    · refine z_iconst zi_35_22 ?_
      refine z_zreturn zi_35_23 rfl (by omega) (kf (fun z => c z.2.1))
    · refine z_aload_n zi_35_13 rfl ?_
      refine z_iload_n zi_35_14 rfl ?_
      refine z_iload_n zi_35_15 rfl ?_
      refine z_iconst zi_35_16 ?_
      refine z_irem zi_35_17 (by omega) ?_
      rw [e2]
      refine z_cv2i zi_35_18 rfl rfl (zt_c hT) ⟨rfl, Nat.le_of_ble_eq_true rfl, Nat.le_of_ble_eq_true rfl⟩ (s_fits (s := n / 2) (f := n % 2) hT h hw rfl hs rfl (by omega) (fun z => ?_) (fun z => ?_))
      · refine z_if_eq_f zi_35_19 (by omega) (by omega) ?_
        refine z_iconst zi_35_20 ?_
        refine z_goto zi_35_21 ?_
        refine z_zreturn zi_35_23 rfl (by omega) (kt hs (by omega) z)
      · refine z_if_eq_t zi_35_19 (by omega) (by omega) ?_
        refine z_iconst zi_35_22 ?_
        refine z_zreturn zi_35_23 rfl (by omega) (kf (fun y => z y.2.2))
  · refine z_if_eq_t zi_35_7 (by omega) (by omega) ?_
    refine z_iconst zi_35_22 ?_
    refine z_zreturn zi_35_23 rfl (by omega) (kf (fun z => q (by omega)))
theorem s_canBeRing (hT : zTa T) (h : zTB T t g) (hw : gWF g) (kt : 3 ≤ gL g → -1 ≤ gT g (gR g 0) (gF g 0) - gT g (gR g (gL g - 1)) (1 - gF g (gL g - 1)) ∧ gT g (gR g 0) (gF g 0) - gT g (gR g (gL g - 1)) (1 - gF g (gL g - 1)) ≤ 1 → K 1 t) (kf : ¬ (3 ≤ gL g ∧ -1 ≤ gT g (gR g 0) (gF g 0) - gT g (gR g (gL g - 1)) (1 - gF g (gL g - 1)) ∧ gT g (gR g 0) (gF g 0) - gT g (gR g (gL g - 1)) (1 - gF g (gL g - 1)) ≤ 1) → K 0 t) : ZX (d + 2) 36 0 [(0, .ref T)] [] t (zKi K) := by
  have hn := hw.n
  refine z_aload_n zi_36_0 rfl ?_
  refine z_getfield zi_36_1 (zt_f7 hT) ?_
  refine z_iconst zi_36_2 ?_
  rw [h.l]
  refine z_icmp_ge zi_36_3 (by omega) (fun c => ?_) (fun c => ?_)
  · have hr := hw.r (p := gL g - 1) (by omega)
    have hr0 := hw.r (p := 0) (by omega)
    have h1 := hw.t hr0.1 hr0.2
    have h2 := hw.t hr.1 (show 1 - gF g (gL g - 1) < 2 by omega)
    have eF : gFi g (gR g 0) = (gF g 0 : Int) := by
      unfold gFi
      rw [gPi_at hw (show 0 < gL g by omega)]
    refine z_aload_n zi_36_6 rfl ?_
    refine z_iconst zi_36_7 ?_
    refine z_cv1i zi_36_8 rfl (zt_c hT) ⟨rfl, Nat.le_of_ble_eq_true rfl, Nat.le_of_ble_eq_true rfl⟩ (s_stoneInTrain (p := 0) hT h hw rfl (by omega) ?_)
    refine z_istore_n zi_36_9 rfl ?_
    refine z_aload_n zi_36_10 rfl ?_
    refine z_iload_n zi_36_11 rfl ?_
    refine z_aload_n zi_36_12 rfl ?_
    refine z_iload_n zi_36_13 rfl ?_
    refine z_cv1i zi_36_14 rfl (zt_c hT) ⟨rfl, Nat.le_of_ble_eq_true rfl, Nat.le_of_ble_eq_true rfl⟩ (s_frontOf (s := gR g 0) hT h hw rfl hr0.1 ?_)
    refine z_cv2i zi_36_15 rfl rfl (zt_c hT) ⟨rfl, Nat.le_of_ble_eq_true rfl, Nat.le_of_ble_eq_true rfl⟩ (s_teethOf (s := gR g 0) (w := gF g 0) hT h hw rfl hr0.1 eF hr0.2 ?_)
    refine z_aload_n zi_36_16 rfl ?_
    refine z_cv0i zi_36_17  (zt_c hT) ⟨rfl, Nat.le_of_ble_eq_true rfl, Nat.le_of_ble_eq_true rfl⟩ (s_lastTeeth hT h hw (by omega) ?_)
    refine z_cs2i zi_36_18 rfl rfl ⟨by decide, rfl, Nat.le_of_ble_eq_true rfl, Nat.le_of_ble_eq_true rfl⟩ (s_areNear (by omega) (by omega) (fun q => ?_) (fun q => ?_))
    · refine z_zreturn zi_36_19 rfl (by omega) (kt (by omega) q)
    · refine z_zreturn zi_36_19 rfl (by omega) (kf (fun z => q z.2))
  · refine z_iconst zi_36_4 ?_
    refine z_zreturn zi_36_5 rfl (by omega) (kf (by omega))
end
end
section
/-! a table: lifts, copies, clears, new stones, counts -/
def gcut (g : zG) (n : Nat) : zG := (gN g, gL g - n, gK g, gT g, gM g, gH g, gR g, gF g, gO g, gS g, gD g)
def gclr (g : zG) : zG := (0, 0, gK g, gT g, gM g, gH g, gR g, gF g, 0, (fun _ => 0), gD g)
def gadd (g : zG) (k a b : Int) : zG := (gN g + 1, gL g, fup (gK g) (gN g) k, fup2 (fup2 (gT g) (gN g) 0 a) (gN g) 1 b, fup2 (fup2 (gM g) (gN g) 0 0) (gN g) 1 0, fup (gH g) (gN g) (-4), gR g, gF g, gO g, gS g, gD g)
theorem zTB_cut {T : Nat} {t : zMI} {g : zG} {i : Nat} (h : zTB T t (gcut g i)) (hw : gWF g) (hh : gWH g) (hi : i < gL g) :
    zTB T (zup (zup (zup (zup t T 7 ((gL g : Int) - i - 1)) (T + 4) (gR g (gL g - i - 1)) (-4)) (T + 5) (gR g (gL g - i - 1)) (-4)) (T + 6) (gR g (gL g - i - 1)) (-4)) (gcut g (i + 1)) := by
  obtain ⟨m, hm⟩ : ∃ m, gL g = m + 1 + i := ⟨gL g - 1 - i, by omega⟩
  have e0 : gL g - i - 1 = m := by omega
  have e1 : gL (gcut g i) = m + 1 := by show gL g - i = _; omega
  have e2 : gL (gcut g (i + 1)) = m := by show gL g - (i + 1) = _; omega
  rw [e0]
  have hnone : gpl (gR g) m (gR g m) = none := gpl_of_none (fun p hp e => by
    have := hw.i p m (by omega) (by omega) e
    omega)
  have hH := hh m (by omega)
  have eP : ∀ s', gP (gcut g (i + 1)) s' = if s' = gR g m then none else gP (gcut g i) s' := fun s' => by
    unfold gP
    rw [e1, e2]
    show gpl (gR g) m s' = if s' = gR g m then none else (if gR g m = s' then some m else gpl (gR g) m s')
    by_cases q : s' = gR g m
    · rw [if_pos q, q]; exact hnone
    · rw [if_neg q, if_neg (fun z => q z.symm)]
  refine ⟨⟨?_, ?_, ?_, ?_⟩, fun s' hs' => ⟨?_, ?_, ?_, ?_⟩, fun s' w hs' hw' => ⟨?_, ?_⟩, fun p hp => ?_, ?_, ?_⟩
  · simp (disch := omega) only [zup_o, zup_n, zup_s]; exact h.n
  · simp (disch := omega) only [zup_o, zup_n, zup_s]; rw [e2]; omega
  · simp (disch := omega) only [zup_o, zup_n, zup_s]; exact h.o
  · simp (disch := omega) only [zup_o, zup_n, zup_s]; exact h.d
  · simp (disch := omega) only [zup_o]; exact h.k hs'
  · simp (disch := omega) only [zup_o]
    rw [zup_at]
    show _ = gH g s'
    by_cases q : s' = gR g m
    · rw [if_pos q, q, hH]
    · rw [if_neg q, zup_o (by omega)]; exact h.h hs'
  · rw [zup_o (k := T + 5) (by omega), zup_at]
    unfold gPi
    rw [eP]
    by_cases q : s' = gR g m
    · rw [if_pos q, if_pos q]
    · rw [if_neg q, if_neg q]
      simp (disch := omega) only [zup_o]
      exact h.p hs'
  · rw [zup_at]
    unfold gFi
    rw [eP]
    by_cases q : s' = gR g m
    · rw [if_pos q, if_pos q]
    · rw [if_neg q, if_neg q]
      simp (disch := omega) only [zup_o]
      exact h.f hs'
  · simp (disch := omega) only [zup_o]; exact h.t hs' hw'
  · simp (disch := omega) only [zup_o]; exact h.m hs' hw'
  · rw [e2] at hp
    simp (disch := omega) only [zup_o]
    exact h.r (by omega)
  · simp (disch := omega) only [zup_o]; exact h.s (w := 0) (by omega)
  · simp (disch := omega) only [zup_o]; exact h.s (w := 1) (by omega)
theorem zTB_add {T : Nat} {t : zMI} {g : zG} (h : zTB T t g) (hw : gWF g) (k a b : Int) :
    zTB T (zup (zup (zup (zup (zup (zup (zup (zup (zup t (T + 1) (gN g) k) (T + 2) (2 * gN g) a) (T + 2) (2 * gN g + 1) b) (T + 3) (2 * gN g + 0) 0) (T + 3) (2 * gN g + 1) 0) (T + 4) (gN g) (-4)) (T + 5) (gN g) (-4)) (T + 6) (gN g) (-4)) T 0 ((gN g : Int) + 1)) (gadd g k a b) := by
  have hnew : ∀ s', gP (gadd g k a b) s' = gP g s' := fun s' => rfl
  have hnone : gP g (gN g) = none := gpl_of_none (fun p hp e => by
    have := (hw.r hp).1
    omega)
  refine ⟨⟨?_, ?_, ?_, ?_⟩, fun s' hs' => ?_, fun s' w hs' hw' => ?_, fun p hp => ?_, ?_, ?_⟩
  · simp (disch := omega) only [zup_o, zup_n, zup_s]; show (gN g : Int) + 1 = ((gN g + 1 : Nat) : Int); omega
  · simp (disch := omega) only [zup_o, zup_n, zup_s]; exact h.l
  · simp (disch := omega) only [zup_o, zup_n, zup_s]; exact h.o
  · simp (disch := omega) only [zup_o, zup_n, zup_s]; exact h.d
  · have hs2 : s' < gN g + 1 := hs'
    by_cases q : s' = gN g
    · subst q
      simp (disch := omega) only [zup_o, zup_s]
      refine ⟨?_, ?_, ?_, ?_⟩
      · show k = fup (gK g) (gN g) k (gN g)
        unfold fup; rw [if_pos rfl]
      · show -4 = fup (gH g) (gN g) (-4) (gN g)
        unfold fup; rw [if_pos rfl]
      · unfold gPi; rw [hnew, hnone]
      · unfold gFi; rw [hnew, hnone]
    · simp (disch := omega) only [zup_o, zup_n]
      refine ⟨?_, ?_, ?_, ?_⟩
      · show _ = fup (gK g) (gN g) k s'
        unfold fup; rw [if_neg q]; exact h.k (by omega)
      · show _ = fup (gH g) (gN g) (-4) s'
        unfold fup; rw [if_neg q]; exact h.h (by omega)
      · exact h.p (by omega)
      · exact h.f (by omega)
  · have hs2 : s' < gN g + 1 := hs'
    have e1 : gT (gadd g k a b) s' w = fup2 (fup2 (gT g) (gN g) 0 a) (gN g) 1 b s' w := rfl
    have e2 : gM (gadd g k a b) s' w = fup2 (fup2 (gM g) (gN g) 0 0) (gN g) 1 0 s' w := rfl
    rw [e1, e2]
    unfold fup2
    simp (disch := omega) only [zup_o]
    rw [zup_at, zup_at]
    rw [zup_at, zup_at]
    by_cases q : s' = gN g
    · rcases (by omega : w = 0 ∨ w = 1) with rfl | rfl
      · rw [if_neg (by omega), if_pos (by omega), if_neg (by omega), if_pos (by omega), if_neg (by omega), if_pos (by omega), if_neg (by omega), if_pos (by omega)]
        exact ⟨rfl, rfl⟩
      · rw [if_pos (by omega), if_pos (by omega), if_pos (by omega), if_pos (by omega)]
        exact ⟨rfl, rfl⟩
    · rw [if_neg (by omega), if_neg (by omega), if_neg (by omega), if_neg (by omega), if_neg (by omega), if_neg (by omega), if_neg (by omega), if_neg (by omega)]
      simp (disch := omega) only [zup_o]
      exact ⟨h.t (by omega) hw', h.m (by omega) hw'⟩
  · simp (disch := omega) only [zup_o]; exact h.r hp
  · simp (disch := omega) only [zup_o]; exact h.s (w := 0) (by omega)
  · simp (disch := omega) only [zup_o]; exact h.s (w := 1) (by omega)
def gcnt (g : zG) (hd : Int) : Nat → Int
  | 0 => 0
  | n + 1 => gcnt g hd n + (if gH g n = hd then 1 else 0)
abbrev glp (g : zG) (hd : Int) (k : Nat) : Prop := k / 2 < gN g ∧ gH g (k / 2) = hd ∧ gfit g (k / 2) (k % 2)
def gcl (g : zG) (hd : Int) : Nat → Nat
  | 0 => 0
  | n + 1 => gcl g hd n + (if glp g hd n then 1 else 0)
theorem gcl_le (g : zG) (hd : Int) : ∀ n, gcl g hd n ≤ n
  | 0 => Nat.le_refl _
  | n + 1 => by
    have := gcl_le g hd n
    unfold gcl
    split <;> omega
theorem gcl_mono (g : zG) (hd : Int) (n : Nat) : ∀ k, gcl g hd n ≤ gcl g hd (n + k)
  | 0 => Nat.le_refl _
  | k + 1 => by
    have := gcl_mono g hd n k
    show _ ≤ gcl g hd (n + k) + _
    omega
theorem gcl_lt {g : zG} {hd : Int} {k m : Nat} (h : glp g hd k) (hm : k < m) : gcl g hd k < gcl g hd m := by
  have h1 : gcl g hd (k + 1) = gcl g hd k + 1 := by
    show gcl g hd k + (if glp g hd k then 1 else 0) = _
    rw [if_pos h]
  have h2 := gcl_mono g hd (k + 1) (m - (k + 1))
  rw [show k + 1 + (m - (k + 1)) = m by omega] at h2
  omega
theorem gcl_inj {g : zG} {hd : Int} {k k' : Nat} (h : glp g hd k) (h' : glp g hd k') (e : gcl g hd k = gcl g hd k') : k = k' := by
  rcases Nat.lt_trichotomy k k' with q | q | q
  · have := gcl_lt h q; omega
  · exact q
  · have := gcl_lt h' q; omega
section
variable {d T : Nat} {t : zMI} {g : zG} {K : Int → zMI → Prop} {Kv : zMI → Prop}
theorem s_stoneInTrainR {a : Int} {p : Nat} (hT : zTa T) (ha : a = (p : Int)) (hp : p < 12) (k : K (t (T + 7) p) t) : ZX (d + 1) 27 0 [(0, .ref T), (1, .int (zi a))] [] t (zKi K) := by
  refine z_aload_n zi_27_0 rfl ?_
  refine z_getfield zi_27_1 (zt_f8 hT) ?_
  refine z_iload_n zi_27_2 rfl ?_
  refine z_cs2i zi_27_3 rfl rfl ⟨by decide, rfl, Nat.le_of_ble_eq_true rfl, Nat.le_of_ble_eq_true rfl⟩ (s_at (zt_a7 hT) (by omega) ha (by omega) ?_)
  refine z_ireturn zi_27_4 rfl k
theorem s_liftLast {a : Int} {n : Nat} (hT : zTa T) (h : zTB T t g) (hw : gWF g) (hh : gWH g) (ha : a = (n : Int)) (hn : n ≤ 12) (k : ∀ t', zTB T t' (gtake g n) → zFr T t t' → Kv t') : ZX (d + 2) 40 0 [(0, .ref T), (1, .int (zi a))] [] t (zKv Kv) := by
  have hn12 := hw.n
  subst ha
  have fin : ∀ t' i, zTB T t' (gcut g i) → zFr T t t' → gL g - i = gL g - n → ZX (d + 2) 40 22 [(2, .int (zi i)), (0, .ref T), (1, .int (zi n))] [] t' (zKv Kv) := by
    intro t' i h' f' e
    refine z_aload_n zi_40_22 rfl ?_
    refine z_iconst zi_40_23 ?_
    refine z_putfield zi_40_24 (zt_i9 hT) (Or.inr ⟨rfl, by omega⟩) ?_
    refine z_vreturn zi_40_25 rfl (k _ ?_ (f'.up (by omega)))
    have h2 := zTB_O h' 0
    have e2 : gsO (gcut g i) 0 = gtake g n := by
      show (gN g, gL g - i, gK g, gT g, gM g, gH g, gR g, gF g, (0 : Int), gS g, gD g) = (gN g, gL g - n, gK g, gT g, gM g, gH g, gR g, gF g, (0 : Int), gS g, gD g)
      rw [e]
    rw [e2] at h2
    exact h2
  have loop : ∀ (j i : Nat), i + j = n → ∀ t', zTB T t' (gcut g i) → zFr T t t' → ZX (d + 2) 40 2 [(2, .int (zi i)), (0, .ref T), (1, .int (zi n))] [] t' (zKv Kv) := by
    intro j
    induction j with
    | zero =>
      intro i e t' h' f'
      refine z_iload_n zi_40_2 rfl ?_
      refine z_iload_n zi_40_3 rfl ?_
      refine z_icmp_ge_t zi_40_4 (by omega) (by omega) ?_
      exact fin t' i h' f' (by rw [show i = n by omega])
    | succ j ih =>
      intro i e t' h' f'
      have hl : t' T 7 = ((gL g - i : Nat) : Int) := h'.l
      refine z_iload_n zi_40_2 rfl ?_
      refine z_iload_n zi_40_3 rfl ?_
      refine z_icmp_ge_f zi_40_4 (by omega) (by omega) ?_
      refine z_aload_n zi_40_5 rfl ?_
      refine z_getfield zi_40_6 (zt_f7 hT) ?_
      rw [hl]
      refine z_if_le zi_40_7 (by omega) (fun c => ?_) (fun c => ?_)
      · exact fin t' i h' f' (by omega)
      · refine z_aload_n zi_40_8 rfl ?_
        refine z_dup zi_40_9 rfl ?_
        refine z_getfield zi_40_10 (zt_f7 hT) ?_
        rw [hl]
        refine z_iconst zi_40_11 ?_
        refine z_isub zi_40_12 ?_
        refine z_putfield zi_40_13 (zt_i7 hT) (Or.inl rfl) ?_
        refine z_aload_n zi_40_14 rfl ?_
        refine z_aload_n zi_40_15 rfl ?_
        refine z_aload_n zi_40_16 rfl ?_
        refine z_getfield zi_40_17 (zt_f7 hT) ?_
        rw [zup_s]
        refine z_cv1i zi_40_18 rfl (zt_c hT) ⟨rfl, Nat.le_of_ble_eq_true rfl, Nat.le_of_ble_eq_true rfl⟩ (s_stoneInTrainR (p := gL g - i - 1) hT (by omega) (by omega) ?_)
        have er : t' (T + 7) (gL g - i - 1) = (gR g (gL g - i - 1) : Int) := h'.r (show gL g - i - 1 < gL g - i by omega)
        rw [zup_o (by omega), er]
        have hr := hw.r (p := gL g - i - 1) (by omega)
        refine z_cv1v zi_40_19 rfl (zt_c hT) ⟨rfl, Nat.le_of_ble_eq_true rfl, Nat.le_of_ble_eq_true rfl⟩ (s_setNotLaid (s := gR g (gL g - i - 1)) hT rfl (by omega) ?_)
        refine z_iinc zi_40_20 rfl rfl ?_
        refine z_goto zi_40_21 ?_
        refine z_loc (lv' := [(2, .int (zi ((i + 1 : Nat) : Int))), (0, .ref T), (1, .int (zi n))]) rfl ?_
        have h2 := zTB_cut h' hw hh (by omega)
        have ev : ((gL g - i : Nat) : Int) - 1 = (gL g : Int) - i - 1 := by omega
        rw [ev]
        refine ih (i + 1) (by omega) _ h2 ?_
        refine (((f'.up ?_).up ?_).up ?_).up ?_ <;> omega
  refine z_iconst zi_40_0 ?_
  refine z_istore_n zi_40_1 rfl ?_
  refine z_loc (lv' := [(2, .int (zi ((0 : Nat) : Int))), (0, .ref T), (1, .int (zi n))]) rfl ?_
  exact loop n 0 (by omega) t h zFr.rf
theorem s_clear (hT : zTa T) (h : zTB T t g) (k : ∀ t', zTB T t' (gclr g) → zFr T t t' → Kv t') : ZX (d + 1) 7 0 [(0, .ref T)] [] t (zKv Kv) := by
  refine z_aload_n zi_7_0 rfl ?_
  refine z_iconst zi_7_1 ?_
  refine z_putfield zi_7_2 (zt_i0 hT) (Or.inl rfl) ?_
  refine z_aload_n zi_7_3 rfl ?_
  refine z_iconst zi_7_4 ?_
  refine z_putfield zi_7_5 (zt_i7 hT) (Or.inl rfl) ?_
  refine z_aload_n zi_7_6 rfl ?_
  refine z_iconst zi_7_7 ?_
  refine z_putfield zi_7_8 (zt_i9 hT) (Or.inr ⟨rfl, by omega⟩) ?_
  refine z_aload_n zi_7_9 rfl ?_
  refine z_getfield zi_7_10 (zt_f10 hT) ?_
  refine z_iconst zi_7_11 ?_
  refine z_iconst zi_7_12 ?_
  refine z_cs3v zi_7_13 rfl rfl rfl ⟨by decide, rfl, Nat.le_of_ble_eq_true rfl, Nat.le_of_ble_eq_true rfl⟩ (s_put (n := 0) (zt_a8 hT) (by omega) rfl (by omega) ?_)
  refine z_aload_n zi_7_14 rfl ?_
  refine z_getfield zi_7_15 (zt_f10 hT) ?_
  refine z_iconst zi_7_16 ?_
  refine z_iconst zi_7_17 ?_
  refine z_cs3v zi_7_18 rfl rfl rfl ⟨by decide, rfl, Nat.le_of_ble_eq_true rfl, Nat.le_of_ble_eq_true rfl⟩ (s_put (n := 1) (zt_a8 hT) (by omega) rfl (by omega) ?_)
  refine z_vreturn zi_7_19 rfl (k _ ?_ ?_)
  · refine ⟨⟨?_, ?_, ?_, ?_⟩, fun s' hs' => (by cases hs'), fun s' w hs' hw' => (by cases hs'), fun p hp => (by cases hp), ?_, ?_⟩
    · simp (disch := omega) only [zup_o, zup_n, zup_s]; rfl
    · simp (disch := omega) only [zup_o, zup_n, zup_s]; rfl
    · simp (disch := omega) only [zup_o, zup_n, zup_s]; rfl
    · simp (disch := omega) only [zup_o, zup_n, zup_s]; exact h.d
    · simp (disch := omega) only [zup_o, zup_n, zup_s]; rfl
    · simp (disch := omega) only [zup_o, zup_n, zup_s]; rfl
  · refine zFr.up (zFr.up (zFr.up (zFr.up (zFr.up zFr.rf ?_) ?_) ?_) ?_) ?_ <;> omega
theorem s_addStone {kd a b : Int} (hT : zTa T) (h : zTB T t g) (hw : gWF g) (hN : gN g < 12) (k : ∀ t', zTB T t' (gadd g kd a b) → zFr T t t' → K (gN g) t') : ZX (d + 2) 9 0 [(0, .ref T), (1, .int (zi kd)), (2, .int (zi a)), (3, .int (zi b))] [] t (zKi K) := by
  refine z_aload_n zi_9_0 rfl ?_
  refine z_getfield zi_9_1 (zt_f0 hT) ?_
  rw [h.n]
  refine z_istore zi_9_2 rfl ?_
  refine z_aload_n zi_9_3 rfl ?_
  refine z_getfield zi_9_4 (zt_f1 hT) ?_
  refine z_iload zi_9_5 rfl ?_
  refine z_iload_n zi_9_6 rfl ?_
  refine z_cs3v zi_9_7 rfl rfl rfl ⟨by decide, rfl, Nat.le_of_ble_eq_true rfl, Nat.le_of_ble_eq_true rfl⟩ (s_put (n := gN g) (zt_a1 hT) (by omega) rfl (by omega) ?_)
  refine z_aload_n zi_9_8 rfl ?_
  refine z_getfield zi_9_9 (zt_f2 hT) ?_
  refine z_iconst zi_9_10 ?_
  refine z_iload zi_9_11 rfl ?_
  refine z_imul zi_9_12 ?_
  refine z_iload_n zi_9_13 rfl ?_
  refine z_cs3v zi_9_14 rfl rfl rfl ⟨by decide, rfl, Nat.le_of_ble_eq_true rfl, Nat.le_of_ble_eq_true rfl⟩ (s_put (n := 2 * gN g) (zt_a2 hT) (by omega) (by omega) (by omega) ?_)
  refine z_aload_n zi_9_15 rfl ?_
  refine z_getfield zi_9_16 (zt_f2 hT) ?_
  refine z_iconst zi_9_17 ?_
  refine z_iload zi_9_18 rfl ?_
  refine z_imul zi_9_19 ?_
  refine z_iconst zi_9_20 ?_
  refine z_iadd zi_9_21 ?_
  refine z_iload_n zi_9_22 rfl ?_
  refine z_cs3v zi_9_23 rfl rfl rfl ⟨by decide, rfl, Nat.le_of_ble_eq_true rfl, Nat.le_of_ble_eq_true rfl⟩ (s_put (n := 2 * gN g + 1) (zt_a2 hT) (by omega) (by omega) (by omega) ?_)
  refine z_aload_n zi_9_24 rfl ?_
  refine z_iload zi_9_25 rfl ?_
  refine z_iconst zi_9_26 ?_
  refine z_iconst zi_9_27 ?_
  refine z_cv3v zi_9_28 rfl rfl rfl (zt_c hT) ⟨rfl, Nat.le_of_ble_eq_true rfl, Nat.le_of_ble_eq_true rfl⟩ (s_setMark (s := gN g) (w := 0) hT rfl (by omega) rfl (by omega) ?_)
  refine z_aload_n zi_9_29 rfl ?_
  refine z_iload zi_9_30 rfl ?_
  refine z_iconst zi_9_31 ?_
  refine z_iconst zi_9_32 ?_
  refine z_cv3v zi_9_33 rfl rfl rfl (zt_c hT) ⟨rfl, Nat.le_of_ble_eq_true rfl, Nat.le_of_ble_eq_true rfl⟩ (s_setMark (s := gN g) (w := 1) hT rfl (by omega) rfl (by omega) ?_)
  refine z_aload_n zi_9_34 rfl ?_
  refine z_iload zi_9_35 rfl ?_
  refine z_cv1v zi_9_36 rfl (zt_c hT) ⟨rfl, Nat.le_of_ble_eq_true rfl, Nat.le_of_ble_eq_true rfl⟩ (s_setNotLaid (s := gN g) hT rfl (by omega) ?_)
  refine z_aload_n zi_9_37 rfl ?_
  refine z_dup zi_9_38 rfl ?_
  refine z_getfield zi_9_39 (zt_f0 hT) ?_
  simp (disch := omega) only [zup_o]
  rw [h.n]
  refine z_iconst zi_9_40 ?_
  refine z_iadd zi_9_41 ?_
  refine z_putfield zi_9_42 (zt_i0 hT) (Or.inl rfl) ?_
  refine z_iload zi_9_43 rfl ?_
  refine z_ireturn zi_9_44 rfl (k _ (zTB_add h hw kd a b) ?_)
  refine zFr.up (zFr.up (zFr.up (zFr.up (zFr.up (zFr.up (zFr.up (zFr.up (zFr.up zFr.rf ?_) ?_) ?_) ?_) ?_) ?_) ?_) ?_) ?_ <;> omega
theorem s_copyFrom {U : Nat} (hT : zTa T) (hU : zTa U) (hne : U ≠ T) (h : zTB U t g) (hw : gWF g) (k : ∀ t', zTB T t' g → zFr T t t' → Kv t') : ZX (d + 2) 6 0 [(0, .ref T), (1, .ref U)] [] t (zKv Kv) := by
  have ap : T + 9 ≤ U ∨ U + 9 ≤ T := by unfold zTa at hT hU; omega
  have hn := hw.n
  have ho := hw.o
  refine z_aload_n zi_6_0 rfl ?_
  refine z_aload_n zi_6_1 rfl ?_
  refine z_getfield zi_6_2 (zt_f0 hU) ?_
  refine z_putfield zi_6_3 (zt_i0 hT) (Or.inl rfl) ?_
  refine z_aload_n zi_6_4 rfl ?_
  refine z_getfield zi_6_5 (zt_f1 hU) ?_
  refine z_aload_n zi_6_6 rfl ?_
  refine z_getfield zi_6_7 (zt_f1 hT) ?_
  refine z_cs2v zi_6_8 rfl rfl ⟨by decide, rfl, Nat.le_of_ble_eq_true rfl, Nat.le_of_ble_eq_true rfl⟩ (s_copyRow (zt_a1 hU) (zt_a1 hT) (by omega) ?_)
  refine z_aload_n zi_6_9 rfl ?_
  refine z_getfield zi_6_10 (zt_f2 hU) ?_
  refine z_aload_n zi_6_11 rfl ?_
  refine z_getfield zi_6_12 (zt_f2 hT) ?_
  refine z_cs2v zi_6_13 rfl rfl ⟨by decide, rfl, Nat.le_of_ble_eq_true rfl, Nat.le_of_ble_eq_true rfl⟩ (s_copyRow (zt_a2 hU) (zt_a2 hT) (by omega) ?_)
  refine z_aload_n zi_6_14 rfl ?_
  refine z_getfield zi_6_15 (zt_f3 hU) ?_
  refine z_aload_n zi_6_16 rfl ?_
  refine z_getfield zi_6_17 (zt_f3 hT) ?_
  refine z_cs2v zi_6_18 rfl rfl ⟨by decide, rfl, Nat.le_of_ble_eq_true rfl, Nat.le_of_ble_eq_true rfl⟩ (s_copyRow (zt_a3 hU) (zt_a3 hT) (by omega) ?_)
  refine z_aload_n zi_6_19 rfl ?_
  refine z_getfield zi_6_20 (zt_f4 hU) ?_
  refine z_aload_n zi_6_21 rfl ?_
  refine z_getfield zi_6_22 (zt_f4 hT) ?_
  refine z_cs2v zi_6_23 rfl rfl ⟨by decide, rfl, Nat.le_of_ble_eq_true rfl, Nat.le_of_ble_eq_true rfl⟩ (s_copyRow (zt_a4 hU) (zt_a4 hT) (by omega) ?_)
  refine z_aload_n zi_6_24 rfl ?_
  refine z_getfield zi_6_25 (zt_f5 hU) ?_
  refine z_aload_n zi_6_26 rfl ?_
  refine z_getfield zi_6_27 (zt_f5 hT) ?_
  refine z_cs2v zi_6_28 rfl rfl ⟨by decide, rfl, Nat.le_of_ble_eq_true rfl, Nat.le_of_ble_eq_true rfl⟩ (s_copyRow (zt_a5 hU) (zt_a5 hT) (by omega) ?_)
  refine z_aload_n zi_6_29 rfl ?_
  refine z_getfield zi_6_30 (zt_f6 hU) ?_
  refine z_aload_n zi_6_31 rfl ?_
  refine z_getfield zi_6_32 (zt_f6 hT) ?_
  refine z_cs2v zi_6_33 rfl rfl ⟨by decide, rfl, Nat.le_of_ble_eq_true rfl, Nat.le_of_ble_eq_true rfl⟩ (s_copyRow (zt_a6 hU) (zt_a6 hT) (by omega) ?_)
  refine z_aload_n zi_6_34 rfl ?_
  refine z_aload_n zi_6_35 rfl ?_
  refine z_getfield zi_6_36 (zt_f7 hU) ?_
  simp (disch := omega) only [zup_o, zcpi_o]
  refine z_putfield zi_6_37 (zt_i7 hT) (Or.inl rfl) ?_
  refine z_aload_n zi_6_38 rfl ?_
  refine z_getfield zi_6_39 (zt_f8 hU) ?_
  refine z_aload_n zi_6_40 rfl ?_
  refine z_getfield zi_6_41 (zt_f8 hT) ?_
  refine z_cs2v zi_6_42 rfl rfl ⟨by decide, rfl, Nat.le_of_ble_eq_true rfl, Nat.le_of_ble_eq_true rfl⟩ (s_copyRow (zt_a7 hU) (zt_a7 hT) (by omega) ?_)
  refine z_aload_n zi_6_43 rfl ?_
  refine z_aload_n zi_6_44 rfl ?_
  refine z_getfield zi_6_45 (zt_f9 hU) ?_
  simp (disch := omega) only [zup_o, zcpi_o]
  refine z_putfield zi_6_46 (zt_i9 hT) (Or.inr ⟨rfl, (by rw [h.o]; exact ho.1)⟩) ?_
  refine z_aload_n zi_6_47 rfl ?_
  refine z_getfield zi_6_48 (zt_f10 hU) ?_
  refine z_aload_n zi_6_49 rfl ?_
  refine z_getfield zi_6_50 (zt_f10 hT) ?_
  refine z_cs2v zi_6_51 rfl rfl ⟨by decide, rfl, Nat.le_of_ble_eq_true rfl, Nat.le_of_ble_eq_true rfl⟩ (s_copyRow (zt_a8 hU) (zt_a8 hT) (by omega) ?_)
  refine z_aload_n zi_6_52 rfl ?_
  refine z_aload_n zi_6_53 rfl ?_
  refine z_getfield zi_6_54 (zt_f11 hU) ?_
  simp (disch := omega) only [zup_o, zcpi_o]
  refine z_putfield zi_6_55 (zt_i11 hT) (Or.inl rfl) ?_
  refine z_vreturn zi_6_56 rfl (k _ ?_ ?_)
  · refine ⟨⟨?_, ?_, ?_, ?_⟩, fun s' hs' => ⟨?_, ?_, ?_, ?_⟩, fun s' w hs' hw' => ⟨?_, ?_⟩, fun p hp => ?_, ?_, ?_⟩
    · simp (disch := omega) only [zup_o, zup_n, zup_s, zcpi_o, zcpi_s]; exact h.n
    · simp (disch := omega) only [zup_o, zup_n, zup_s, zcpi_o, zcpi_s]; exact h.l
    · simp (disch := omega) only [zup_o, zup_n, zup_s, zcpi_o, zcpi_s]; exact h.o
    · simp (disch := omega) only [zup_o, zup_n, zup_s, zcpi_o, zcpi_s]; exact h.d
    · simp (disch := omega) only [zup_o, zup_n, zup_s, zcpi_o, zcpi_s]; exact h.k hs'
    · simp (disch := omega) only [zup_o, zup_n, zup_s, zcpi_o, zcpi_s]; exact h.h hs'
    · simp (disch := omega) only [zup_o, zup_n, zup_s, zcpi_o, zcpi_s]; exact h.p hs'
    · simp (disch := omega) only [zup_o, zup_n, zup_s, zcpi_o, zcpi_s]; exact h.f hs'
    · simp (disch := omega) only [zup_o, zup_n, zup_s, zcpi_o, zcpi_s]; exact h.t hs' hw'
    · simp (disch := omega) only [zup_o, zup_n, zup_s, zcpi_o, zcpi_s]; exact h.m hs' hw'
    · simp (disch := omega) only [zup_o, zup_n, zup_s, zcpi_o, zcpi_s]; exact h.r hp
    · simp (disch := omega) only [zup_o, zup_n, zup_s, zcpi_o, zcpi_s]; exact h.s (w := 0) (by omega)
    · simp (disch := omega) only [zup_o, zup_n, zup_s, zcpi_o, zcpi_s]; exact h.s (w := 1) (by omega)
  · intro q hq
    simp (disch := omega) only [zup_o, zcpi_o]
theorem s_handSize {hd : Int} (hT : zTa T) (h : zTB T t g) (hw : gWF g) (hh : hd = 0 ∨ hd = 1) (k : K (gcnt g hd (gN g)) t) : ZX (d + 2) 20 0 [(0, .ref T), (1, .int (zi hd))] [] t (zKi K) := by
  have hn := hw.n
  have loop : ∀ (j n : Nat), n + j = gN g → ZX (d + 2) 20 4 [(3, .int (zi n)), (2, .int (zi (gcnt g hd n))), (0, .ref T), (1, .int (zi hd))] [] t (zKi K) := by
    intro j
    induction j with
    | zero =>
      intro n e
      have e1 : n = gN g := by omega
      subst e1
      refine z_iload_n zi_20_4 rfl ?_
      refine z_aload_n zi_20_5 rfl ?_
      refine z_getfield zi_20_6 (zt_f0 hT) ?_
      rw [h.n]
      refine z_icmp_ge_t zi_20_7 (by omega) (by omega) ?_
      refine z_iload_n zi_20_16 rfl ?_
      refine z_ireturn zi_20_17 rfl k
    | succ j ih =>
      intro n e
      have h1 := hw.h (s := n) (by omega)
      refine z_iload_n zi_20_4 rfl ?_
      refine z_aload_n zi_20_5 rfl ?_
      refine z_getfield zi_20_6 (zt_f0 hT) ?_
      rw [h.n]
      refine z_icmp_ge_f zi_20_7 (by omega) (by omega) ?_
      refine z_aload_n zi_20_8 rfl ?_
      refine z_iload_n zi_20_9 rfl ?_
      refine z_cv1i zi_20_10 rfl (zt_c hT) ⟨rfl, Nat.le_of_ble_eq_true rfl, Nat.le_of_ble_eq_true rfl⟩ (s_handOf (s := n) hT h hw rfl (by omega) ?_)
      refine z_iload_n zi_20_11 rfl ?_
      refine z_icmp_ne zi_20_12 (by omega) (fun c => ?_) (fun c => ?_)
      · refine z_iinc zi_20_14 rfl rfl ?_
        refine z_goto zi_20_15 ?_
        have e2 : gcnt g hd (n + 1) = gcnt g hd n := by show gcnt g hd n + (if gH g n = hd then 1 else 0) = _; rw [if_neg c]; omega
        refine z_loc (lv' := [(3, .int (zi ((n + 1 : Nat) : Int))), (2, .int (zi (gcnt g hd n))), (0, .ref T), (1, .int (zi hd))]) rfl ?_
        rw [← e2]
        exact ih (n + 1) (by omega)
      · refine z_iinc zi_20_13 rfl rfl ?_
        refine z_iinc zi_20_14 rfl rfl ?_
        refine z_goto zi_20_15 ?_
        have e2 : gcnt g hd n + 1 = gcnt g hd (n + 1) := by show _ = gcnt g hd n + (if gH g n = hd then 1 else 0); rw [if_pos (by omega)]
        refine z_loc (lv' := [(3, .int (zi ((n + 1 : Nat) : Int))), (2, .int (zi (gcnt g hd n + 1))), (0, .ref T), (1, .int (zi hd))]) rfl ?_
        rw [e2]
        exact ih (n + 1) (by omega)
  refine z_iconst zi_20_0 ?_
  refine z_istore_n zi_20_1 rfl ?_
  refine z_iconst zi_20_2 ?_
  refine z_istore_n zi_20_3 rfl ?_
  refine z_loc (lv' := [(3, .int (zi ((0 : Nat) : Int))), (2, .int (zi (gcnt g hd 0))), (0, .ref T), (1, .int (zi hd))]) rfl ?_
  exact loop (gN g) 0 (by omega)
theorem s_countLays {hd : Int} (hT : zTa T) (h : zTB T t g) (hw : gWF g) (hh : hd = 0 ∨ hd = 1) (k : K (gcl g hd 24) t) : ZX (d + 4) 55 0 [(0, .ref T), (1, .int (zi hd))] [] t (zKi K) := by
  have loop : ∀ (j n : Nat), n + j = 24 → ZX (d + 4) 55 4 [(3, .int (zi n)), (2, .int (zi (gcl g hd n))), (0, .ref T), (1, .int (zi hd))] [] t (zKi K) := by
    intro j
    induction j with
    | zero =>
      intro n e
      have e1 : n = 24 := by omega
      subst e1
      refine z_iload_n zi_55_4 rfl ?_
      refine z_bipush zi_55_5 (by decide) ?_
      refine z_icmp_ge_t zi_55_6 (by omega) (by omega) ?_
      refine z_iload_n zi_55_15 rfl ?_
      refine z_ireturn zi_55_16 rfl k
    | succ j ih =>
      intro n e
      refine z_iload_n zi_55_4 rfl ?_
      refine z_bipush zi_55_5 (by decide) ?_
      refine z_icmp_ge_f zi_55_6 (by omega) (by omega) ?_
      refine z_aload_n zi_55_7 rfl ?_
      refine z_iload_n zi_55_8 rfl ?_
      refine z_iload_n zi_55_9 rfl ?_
      refine z_cv2i zi_55_10 rfl rfl (zt_c hT) ⟨rfl, Nat.le_of_ble_eq_true rfl, Nat.le_of_ble_eq_true rfl⟩ (s_mayLay (n := n) hT h hw hh rfl (by omega) (fun q1 q2 q3 => ?_) (fun q => ?_))
      · refine z_if_eq_f zi_55_11 (by omega) (by omega) ?_
        refine z_iinc zi_55_12 rfl rfl ?_
        refine z_iinc zi_55_13 rfl rfl ?_
        refine z_goto zi_55_14 ?_
        have e2 : (gcl g hd n : Int) + 1 = ((gcl g hd (n + 1) : Nat) : Int) := by
          have : gcl g hd (n + 1) = gcl g hd n + 1 := by
            show gcl g hd n + (if glp g hd n then 1 else 0) = _
            rw [if_pos ⟨q1, q2, q3⟩]
          omega
        refine z_loc (lv' := [(3, .int (zi ((n + 1 : Nat) : Int))), (2, .int (zi ((gcl g hd n : Int) + 1))), (0, .ref T), (1, .int (zi hd))]) rfl ?_
        rw [e2]
        exact ih (n + 1) (by omega)
      · refine z_if_eq_t zi_55_11 (by omega) (by omega) ?_
        refine z_iinc zi_55_13 rfl rfl ?_
        refine z_goto zi_55_14 ?_
        have e2 : gcl g hd (n + 1) = gcl g hd n := by show gcl g hd n + (if glp g hd n then 1 else 0) = _; rw [if_neg q]; rfl
        refine z_loc (lv' := [(3, .int (zi ((n + 1 : Nat) : Int))), (2, .int (zi (gcl g hd n : Int))), (0, .ref T), (1, .int (zi hd))]) rfl ?_
        rw [← e2]
        exact ih (n + 1) (by omega)
  refine z_iconst zi_55_0 ?_
  refine z_istore_n zi_55_1 rfl ?_
  refine z_iconst zi_55_2 ?_
  refine z_istore_n zi_55_3 rfl ?_
  refine z_loc (lv' := [(3, .int (zi ((0 : Nat) : Int))), (2, .int (zi (gcl g hd 0))), (0, .ref T), (1, .int (zi hd))]) rfl ?_
  exact loop 24 0 (by omega)
end
end
section
/-! a table: drawn lays, common multiples, the teeth until all is up -/
theorem zmask {x : Int} : zi x &&& zi 2147483647 = zi (x % 2147483648) := by
  rw [pk_and (zi x) (m := zi 2147483647) 31 (by decide)]
  have e : (zi x).toBitVec.toNat = (x % 4294967296).toNat := by
    show (BitVec.ofInt 32 x).toNat = _
    rw [BitVec.toNat_ofInt]
    rfl
  rw [e]
  show Int32.ofNat _ = Int32.ofInt _
  have e2 : ((x % 4294967296).toNat % 2 ^ 31 : Nat) = (x % 2147483648).toNat := by omega
  rw [e2]
  have e3 : x % 2147483648 = ((x % 2147483648).toNat : Int) := by omega
  rw [e3, Int.toNat_natCast]
  rfl
def gdr (g : zG) : Int := (gD g * 1103515245 + 12345) % 2147483648
theorem gdr_rng (g : zG) : 0 ≤ gdr g ∧ gdr g < 2147483648 := by unfold gdr; omega
theorem gsD_wf {g : zG} {v : Int} (h : gWF g) (hv : 0 ≤ v ∧ v < 2147483648) : gWF (gsD g v) := ⟨h.1, h.2.1, h.2.2.1, h.2.2.2.1, h.2.2.2.2.1, h.2.2.2.2.2.1, h.2.2.2.2.2.2.1, hv⟩
theorem glp_free {g : zG} (hh : gWH g) {hd : Int} (hd0 : hd = 0 ∨ hd = 1) {q : Nat} (h : glp g hd q) : gP g (q / 2) = none := by
  cases e : gP g (q / 2) with
  | none => rfl
  | some p =>
    have h1 := hh p (gP_some e).1
    rw [(gP_some e).2, h.2.1] at h1
    omega
section
variable {d T : Nat} {t : zMI} {g : zG} {K : Int → zMI → Prop} {Kv : zMI → Prop}
theorem s_layDrawn {hd : Int} (hT : zTa T) (h : zTB T t g) (hw : gWF g) (hh : gWH g) (ho : gO g = 0) (hd0 : hd = 0 ∨ hd = 1) (k0 : gcl g hd 24 = 0 → K 0 t)
    (k1 : ∀ q t', q < 24 → 0 < gcl g hd 24 → glp g hd q → (gcl g hd q : Int) = (gdr g / 65536) % (gcl g hd 24 : Int) → zTB T t' (glay (gsD g (gdr g)) (q / 2) (q % 2)) → zFr T t t' → K 1 t') : ZX (d + 5) 54 0 [(0, .ref T), (1, .int (zi hd))] [] t (zKi K) := by
  have hle := gcl_le g hd 24
  have hdr := gdr_rng g
  refine z_aload_n zi_54_0 rfl ?_
  refine z_iload_n zi_54_1 rfl ?_
  refine z_cv1i zi_54_2 rfl (zt_c hT) ⟨rfl, Nat.le_of_ble_eq_true rfl, Nat.le_of_ble_eq_true rfl⟩ (s_countLays hT h hw hd0 ?_)
  refine z_istore_n zi_54_3 rfl ?_
  refine z_iload_n zi_54_4 rfl ?_
  refine z_if_ne zi_54_5 (by omega) (fun c => ?_) (fun c => ?_)
  · refine z_aload_n zi_54_8 rfl ?_
    refine z_aload_n zi_54_9 rfl ?_
    refine z_getfield zi_54_10 (zt_f11 hT) ?_
    rw [h.d]
    refine z_ldc (v := 1103515245) zi_54_11 rfl ?_
    refine z_imul zi_54_12 ?_
    refine z_sipush zi_54_13 (by decide) ?_
    refine z_iadd zi_54_14 ?_
    refine z_ldc (v := 2147483647) zi_54_15 rfl ?_
    refine z_iand zi_54_16 zmask ?_
    refine z_putfield zi_54_17 (zt_i11 hT) (Or.inl rfl) ?_
    refine z_aload_n zi_54_18 rfl ?_
    refine z_getfield zi_54_19 (zt_f11 hT) ?_
    rw [zup_s]
    have h1 : zTB T (zup t T 11 (gdr g)) (gsD g (gdr g)) := zTB_D h _
    have w1 := gsD_wf hw hdr
    have f1 : zFr T t (zup t T 11 (gdr g)) := zFr.rf.up (by omega)
    have e1 : (gD g * 1103515245 + 12345) % 2147483648 = gdr g := rfl
    rw [e1]
    generalize zup t T 11 (gdr g) = t1 at h1 f1 ⊢
    refine z_ldc (v := 65536) zi_54_20 rfl ?_
    have e2 : (gdr g).tdiv 65536 = gdr g / 65536 := Int.tdiv_eq_ediv_of_nonneg hdr.1
    refine z_idiv zi_54_21 (by omega) ?_
    rw [e2]
    refine z_iload_n zi_54_22 rfl ?_
    refine z_cs2i zi_54_23 rfl rfl ⟨by decide, rfl, Nat.le_of_ble_eq_true rfl, Nat.le_of_ble_eq_true rfl⟩ (s_remainder (by omega) (by omega) ?_)
    have hm0 := Int.emod_nonneg (gdr g / 65536) (show (gcl g hd 24 : Int) ≠ 0 by omega)
    have hm1 := Int.emod_lt_of_pos (gdr g / 65536) (show (0 : Int) < (gcl g hd 24 : Int) by omega)
    generalize hq0 : (gdr g / 65536) % (gcl g hd 24 : Int) = q0 at hm0 hm1 k1 ⊢
    have loop : ∀ (j n : Nat), n + j = 24 → (gcl g hd n : Int) ≤ q0 → ZX (d + 5) 54 27 [(4, .int (zi n)), (3, .int (zi (q0 - gcl g hd n))), (0, .ref T), (1, .int (zi hd))] [] t1 (zKi K) := by
      intro j
      induction j with
      | zero =>
        intro n e hq
        rw [show n = 24 by omega] at hq
        omega
      | succ j ih =>
        intro n e hq
        refine z_iload zi_54_27 rfl ?_
        refine z_bipush zi_54_28 (by decide) ?_
        refine z_icmp_ge_f zi_54_29 (by omega) (by omega) ?_
        refine z_aload_n zi_54_30 rfl ?_
        refine z_iload_n zi_54_31 rfl ?_
        refine z_iload zi_54_32 rfl ?_
        refine z_cv2i zi_54_33 rfl rfl (zt_c hT) ⟨rfl, Nat.le_of_ble_eq_true rfl, Nat.le_of_ble_eq_true rfl⟩ (s_mayLay (n := n) hT h1 w1 hd0 rfl (by omega) (fun q1 q2 q3 => ?_) (fun q => ?_))
        · have hp : glp g hd n := ⟨q1, q2, q3⟩
          have e3 : gcl g hd (n + 1) = gcl g hd n + 1 := by
            show gcl g hd n + (if glp g hd n then 1 else 0) = _
            rw [if_pos hp]
          refine z_if_eq_f zi_54_34 (by omega) (by omega) ?_
          refine z_iload_n zi_54_35 rfl ?_
          refine z_if_ne zi_54_36 (by omega) (fun c2 => ?_) (fun c2 => ?_)
          · refine z_iinc zi_54_48 rfl rfl ?_
            refine z_iinc zi_54_49 rfl rfl ?_
            refine z_goto zi_54_50 ?_
            have e4 : q0 - (gcl g hd n : Int) + -1 = q0 - (gcl g hd (n + 1) : Nat) := by omega
            rw [e4]
            refine z_loc (lv' := [(4, .int (zi ((n + 1 : Nat) : Int))), (3, .int (zi (q0 - (gcl g hd (n + 1) : Nat)))), (0, .ref T), (1, .int (zi hd))]) rfl ?_
            exact ih (n + 1) (by omega) (by omega)
          · refine z_aload_n zi_54_37 rfl ?_
            refine z_iload zi_54_38 rfl ?_
            refine z_iconst zi_54_39 ?_
            refine z_idiv zi_54_40 (by omega) ?_
            have e5 : (n : Int).tdiv 2 = ((n / 2 : Nat) : Int) := (Int.ofNat_tdiv n 2).symm
            have e6 : (n : Int).tmod 2 = ((n % 2 : Nat) : Int) := (Int.ofNat_tmod n 2).symm
            rw [e5]
            refine z_iload zi_54_41 rfl ?_
            refine z_iconst zi_54_42 ?_
            refine z_irem zi_54_43 (by omega) ?_
            rw [e6]
            refine z_cv2i zi_54_44 rfl rfl (zt_c hT) ⟨rfl, Nat.le_of_ble_eq_true rfl, Nat.le_of_ble_eq_true rfl⟩ (s_layDown (s := n / 2) (f := n % 2) hT h1 w1 rfl q1 rfl (by omega) (glp_free hh hd0 hp) ho (fun t2 h2 f2 => ?_))
            refine z_pop zi_54_45 rfl ?_
            refine z_iconst zi_54_46 ?_
            refine z_zreturn zi_54_47 rfl (by omega) (k1 n t2 (by omega) (by omega) hp (by omega) h2 (f1.tr f2))
        · refine z_if_eq_t zi_54_34 (by omega) (by omega) ?_
          refine z_iinc zi_54_49 rfl rfl ?_
          refine z_goto zi_54_50 ?_
          have e3 : gcl g hd (n + 1) = gcl g hd n := by
            show gcl g hd n + (if glp g hd n then 1 else 0) = _
            rw [if_neg (show ¬ glp g hd n from q)]; rfl
          refine z_loc (lv' := [(4, .int (zi ((n + 1 : Nat) : Int))), (3, .int (zi (q0 - gcl g hd n))), (0, .ref T), (1, .int (zi hd))]) rfl ?_
          rw [← e3]
          exact ih (n + 1) (by omega) (by rw [e3]; exact hq)
    refine z_istore_n zi_54_24 rfl ?_
    refine z_iconst zi_54_25 ?_
    refine z_istore zi_54_26 rfl ?_
    refine z_loc (lv' := [(4, .int (zi ((0 : Nat) : Int))), (3, .int (zi q0)), (0, .ref T), (1, .int (zi hd))]) rfl ?_
    refine z_lv (lv' := [(4, .int (zi ((0 : Nat) : Int))), (3, .int (zi (q0 - gcl g hd 0))), (0, .ref T), (1, .int (zi hd))]) (by rw [show q0 - ((gcl g hd 0 : Nat) : Int) = q0 from Int.sub_zero q0]) ?_
    exact loop 24 0 (by omega) hm0
  · refine z_iconst zi_54_6 ?_
    refine z_zreturn zi_54_7 rfl (by omega) (k0 (by omega))
theorem glcm_least {a b i : Nat} (ha : 0 < a) (hb : 0 < b) (hd : b ∣ a * i) (hi : 0 < i) (hn : ∀ j, 0 < j → j < i → ¬ b ∣ a * j) : Nat.lcm a b = a * i := by
  obtain ⟨k, hk⟩ := Nat.dvd_lcm_left a b
  have h1 : Nat.lcm a b ∣ a * i := Nat.lcm_dvd (Nat.dvd_mul_right a i) hd
  have h2 := Nat.le_of_dvd (Nat.mul_pos ha hi) h1
  have hpos := Nat.lcm_pos ha hb
  have hk0 : 0 < k := by
    rcases Nat.eq_zero_or_pos k with q | q
    · rw [q, Nat.mul_zero] at hk
      omega
    · exact q
  have h3 : k ≤ i := by
    rw [hk] at h2
    exact Nat.le_of_mul_le_mul_left h2 ha
  rcases Nat.lt_or_ge k i with q | q
  · exact absurd (by rw [← hk]; exact Nat.dvd_lcm_right a b) (hn k hk0 q)
  · rw [hk, show k = i by omega]
theorem s_commonMultiple {x y : Int} {a b : Nat} (hx : x = (a : Int)) (hy : y = (b : Int)) (ha : 0 < a ∧ a ≤ 5040) (hb : 2 ≤ b ∧ b ≤ 9) (k : K (Nat.lcm a b : Nat) t) : ZX (d + 2) 50 0 [(0, .int (zi x)), (1, .int (zi y))] [] t (zKi K) := by
  subst hx hy
  have loop : ∀ (j i : Nat), i + j = b → 0 < i → (∀ q, 0 < q → q < i → ¬ b ∣ a * q) → ZX (d + 2) 50 4 [(3, .int (zi i)), (2, .int (zi ((a * i : Nat) : Int))), (0, .int (zi a)), (1, .int (zi b))] [] t (zKi K) := by
    intro j
    induction j with
    | zero =>
      intro i e h0 hn
      have e1 : i = b := by omega
      subst e1
      rw [glcm_least ha.1 h0 (Nat.dvd_mul_left i a) h0 hn] at k
      refine z_iload_n zi_50_4 rfl ?_
      refine z_iload_n zi_50_5 rfl ?_
      refine z_icmp_ge_t zi_50_6 (by omega) (by omega) ?_
      refine z_iload_n zi_50_17 rfl ?_
      refine z_ireturn zi_50_18 rfl k
    | succ j ih =>
      intro i e h0 hn
      have hbnd : a * i ≤ 5040 * 9 := Nat.mul_le_mul ha.2 (by omega)
      refine z_iload_n zi_50_4 rfl ?_
      refine z_iload_n zi_50_5 rfl ?_
      refine z_icmp_ge_f zi_50_6 (by omega) (by omega) ?_
      refine z_iload_n zi_50_7 rfl ?_
      refine z_iload_n zi_50_8 rfl ?_
      refine z_cs2i zi_50_9 rfl rfl ⟨by decide, rfl, Nat.le_of_ble_eq_true rfl, Nat.le_of_ble_eq_true rfl⟩ (s_remainder (by omega) (by omega) ?_)
      have e2 : ((a * i : Nat) : Int) % (b : Int) = ((a * i % b : Nat) : Int) := (Int.natCast_emod _ _).symm
      rw [e2]
      have h3 : a * i % b < b := Nat.mod_lt _ (by omega)
      refine z_if_eq zi_50_10 (by omega) (fun c => ?_) (fun c => ?_)
      · rw [glcm_least ha.1 (by omega) (Nat.dvd_of_mod_eq_zero (by omega)) h0 hn] at k
        refine z_iload_n zi_50_17 rfl ?_
        refine z_ireturn zi_50_18 rfl k
      · refine z_iload_n zi_50_11 rfl ?_
        refine z_iload_n zi_50_12 rfl ?_
        refine z_iadd zi_50_13 ?_
        refine z_istore_n zi_50_14 rfl ?_
        refine z_iinc zi_50_15 rfl rfl ?_
        refine z_goto zi_50_16 ?_
        have e4 : ((a * i : Nat) : Int) + a = ((a * (i + 1) : Nat) : Int) := by rw [Nat.mul_succ]; omega
        rw [e4]
        refine z_loc (lv' := [(3, .int (zi ((i + 1 : Nat) : Int))), (2, .int (zi ((a * (i + 1) : Nat) : Int))), (0, .int (zi a)), (1, .int (zi b))]) rfl ?_
        refine ih (i + 1) (by omega) (by omega) (fun q hq hq2 => ?_)
        rcases (by omega : q < i ∨ q = i) with z | z
        · exact hn q hq z
        · subst z
          intro z2
          exact c (by rw [Nat.mod_eq_zero_of_dvd z2]; rfl)
  refine z_iload_n zi_50_0 rfl ?_
  refine z_istore_n zi_50_1 rfl ?_
  refine z_iconst zi_50_2 ?_
  refine z_istore_n zi_50_3 rfl ?_
  refine z_loc (lv' := [(3, .int (zi ((1 : Nat) : Int))), (2, .int (zi (a : Int))), (0, .int (zi a)), (1, .int (zi b))]) rfl ?_
  refine z_lv (lv' := [(3, .int (zi ((1 : Nat) : Int))), (2, .int (zi ((a * 1 : Nat) : Int))), (0, .int (zi a)), (1, .int (zi b))]) (by rw [Nat.mul_one]) ?_
  exact loop (b - 1) 1 (by omega) (by omega) (fun q _ _ => by omega)
def gTn (g : zG) (s w : Nat) : Nat := (gT g s w).toNat
theorem gTn_eq {g : zG} (h : gWF g) {s w : Nat} (hs : s < gN g) (hw : w < 2) : gT g s w = (gTn g s w : Int) ∧ 3 ≤ gTn g s w ∧ gTn g s w ≤ 9 := by
  have := h.t hs hw
  unfold gTn
  omega
theorem gTn_dvd {g : zG} (h : gWF g) {s w : Nat} (hs : s < gN g) (hw : w < 2) : gTn g s w ∣ 2520 := by
  have h1 := gTn_eq h hs hw
  generalize gTn g s w = n at h1
  have : n = 3 ∨ n = 4 ∨ n = 5 ∨ n = 6 ∨ n = 7 ∨ n = 8 ∨ n = 9 := by omega
  rcases this with rfl | rfl | rfl | rfl | rfl | rfl | rfl <;> decide
def gar (g : zG) : Nat → Nat
  | 0 => 1
  | n + 1 => Nat.lcm (Nat.lcm (gar g n) (gTn g (gR g n) 0)) (gTn g (gR g n) 1)
theorem gar_dvd {g : zG} (h : gWF g) : ∀ n, n ≤ gL g → gar g n ∣ 2520
  | 0, _ => Nat.one_dvd 2520
  | n + 1, hn => by
    have hr := h.r (p := n) (by omega)
    exact Nat.lcm_dvd (Nat.lcm_dvd (gar_dvd h n (by omega)) (gTn_dvd h hr.1 (by omega))) (gTn_dvd h hr.1 (by omega))
theorem dvd_rng {n : Nat} (h : n ∣ 2520) : 0 < n ∧ n ≤ 2520 := ⟨Nat.pos_of_dvd_of_pos h (by omega), Nat.le_of_dvd (by omega) h⟩
theorem s_teethAround (hT : zTa T) (h : zTB T t g) (hw : gWF g) (k : K (gar g (gL g)) t) : ZX (d + 3) 49 0 [(0, .ref T)] [] t (zKi K) := by
  have hn12 := hw.n
  have loop : ∀ (j n : Nat), n + j = gL g → ZX (d + 3) 49 4 [(2, .int (zi n)), (1, .int (zi (gar g n))), (0, .ref T)] [] t (zKi K) := by
    intro j
    induction j with
    | zero =>
      intro n e
      have e1 : n = gL g := by omega
      subst e1
      refine z_iload_n zi_49_4 rfl ?_
      refine z_aload_n zi_49_5 rfl ?_
      refine z_getfield zi_49_6 (zt_f7 hT) ?_
      rw [h.l]
      refine z_icmp_ge_t zi_49_7 (by omega) (by omega) ?_
      refine z_iload_n zi_49_28 rfl ?_
      refine z_ireturn zi_49_29 rfl k
    | succ j ih =>
      intro n e
      have hr := hw.r (p := n) (by omega)
      have h0 := gTn_eq hw hr.1 (show 0 < 2 by omega)
      have h1 := gTn_eq hw hr.1 (show 1 < 2 by omega)
      have hg := dvd_rng (gar_dvd hw n (by omega))
      have hg2 := dvd_rng (Nat.lcm_dvd (gar_dvd hw n (by omega)) (gTn_dvd hw hr.1 (show 0 < 2 by omega)))
      refine z_iload_n zi_49_4 rfl ?_
      refine z_aload_n zi_49_5 rfl ?_
      refine z_getfield zi_49_6 (zt_f7 hT) ?_
      rw [h.l]
      refine z_icmp_ge_f zi_49_7 (by omega) (by omega) ?_
      refine z_aload_n zi_49_8 rfl ?_
      refine z_iload_n zi_49_9 rfl ?_
      refine z_cv1i zi_49_10 rfl (zt_c hT) ⟨rfl, Nat.le_of_ble_eq_true rfl, Nat.le_of_ble_eq_true rfl⟩ (s_stoneInTrain (p := n) hT h hw rfl (by omega) ?_)
      refine z_istore_n zi_49_11 rfl ?_
      refine z_iload_n zi_49_12 rfl ?_
      refine z_aload_n zi_49_13 rfl ?_
      refine z_iload_n zi_49_14 rfl ?_
      refine z_iconst zi_49_15 ?_
      refine z_cv2i zi_49_16 rfl rfl (zt_c hT) ⟨rfl, Nat.le_of_ble_eq_true rfl, Nat.le_of_ble_eq_true rfl⟩ (s_teethOf (s := gR g n) (w := 0) hT h hw rfl hr.1 rfl (by omega) ?_)
      refine z_cs2i zi_49_17 rfl rfl ⟨by decide, rfl, Nat.le_of_ble_eq_true rfl, Nat.le_of_ble_eq_true rfl⟩ (s_commonMultiple rfl h0.1 (by omega) (by omega) ?_)
      refine z_istore_n zi_49_18 rfl ?_
      refine z_iload_n zi_49_19 rfl ?_
      refine z_aload_n zi_49_20 rfl ?_
      refine z_iload_n zi_49_21 rfl ?_
      refine z_iconst zi_49_22 ?_
      refine z_cv2i zi_49_23 rfl rfl (zt_c hT) ⟨rfl, Nat.le_of_ble_eq_true rfl, Nat.le_of_ble_eq_true rfl⟩ (s_teethOf (s := gR g n) (w := 1) hT h hw rfl hr.1 rfl (by omega) ?_)
      refine z_cs2i zi_49_24 rfl rfl ⟨by decide, rfl, Nat.le_of_ble_eq_true rfl, Nat.le_of_ble_eq_true rfl⟩ (s_commonMultiple rfl h1.1 (by omega) (by omega) ?_)
      refine z_istore_n zi_49_25 rfl ?_
      refine z_iinc zi_49_26 rfl rfl ?_
      refine z_goto zi_49_27 ?_
      refine z_loc (lv' := [(2, .int (zi ((n + 1 : Nat) : Int))), (1, .int (zi (gar g (n + 1)))), (0, .ref T)]) rfl ?_
      exact ih (n + 1) (by omega)
  refine z_iconst zi_49_0 ?_
  refine z_istore_n zi_49_1 rfl ?_
  refine z_iconst zi_49_2 ?_
  refine z_istore_n zi_49_3 rfl ?_
  refine z_loc (lv' := [(2, .int (zi ((0 : Nat) : Int))), (1, .int (zi (gar g 0))), (0, .ref T)]) rfl ?_
  exact loop (gL g) 0 (by omega)
theorem s_firstUp {x y v p q : Int} {s w f st : Nat} (hT : zTa T) (h : zTB T t g) (hw : gWF g) (hx : x = (s : Int)) (hs : s < gN g) (hy : y = (w : Int)) (hw2 : w < 2) (hv : v = 1 ∨ v = -1) (hp : p = (f : Int)) (hf : f ≤ 2520) (hq : q = (st : Int)) (hst : st ≤ 2520)
    (kS : ∀ j : Nat, j < gTn g s w → (gM g s w + v * ((f : Int) + j * st)) % gT g s w = 0 → (∀ i : Nat, i < j → ¬ (gM g s w + v * ((f : Int) + i * st)) % gT g s w = 0) → K ((f : Int) + j * st) t)
    (kN : (∀ j : Nat, j < gTn g s w → ¬ (gM g s w + v * ((f : Int) + j * st)) % gT g s w = 0) → K (-4) t) : ZX (d + 2) 52 0 [(0, .ref T), (1, .int (zi x)), (2, .int (zi y)), (3, .int (zi v)), (4, .int (zi p)), (5, .int (zi q))] [] t (zKi K) := by
  have hT2 := gTn_eq hw hs hw2
  have hm := hw.t hs hw2
  have hn12 := hw.n
  subst hx hy hp hq
  have loop : ∀ (j n : Nat), n + j = gTn g s w → (∀ i : Nat, i < n → ¬ (gM g s w + v * ((f : Int) + i * st)) % gT g s w = 0) → ZX (d + 2) 52 12 [(8, .int (zi n)), (7, .int (zi (gM g s w))), (6, .int (zi (gT g s w))), (0, .ref T), (1, .int (zi s)), (2, .int (zi w)), (3, .int (zi v)), (4, .int (zi f)), (5, .int (zi st))] [] t (zKi K) := by
    intro j
    induction j with
    | zero =>
      intro n e hno
      refine z_iload zi_52_12 rfl ?_
      refine z_iload zi_52_13 rfl ?_
      refine z_icmp_ge_t zi_52_14 (by omega) (by omega) ?_
      refine z_bipush zi_52_33 (by decide) ?_
      refine z_ireturn zi_52_34 rfl (kN (fun i hi => hno i (by omega)))
    | succ j ih =>
      intro n e hno
      have hb1 : n * st ≤ 9 * 2520 := Nat.mul_le_mul (by omega) hst
      have hb2 : ((n * st : Nat) : Int) = (n : Int) * st := Int.natCast_mul n st
      have hX : 0 ≤ (f : Int) + n * st ∧ (f : Int) + n * st ≤ 30000 := by omega
      have hvX : -30000 ≤ v * ((f : Int) + n * st) ∧ v * ((f : Int) + n * st) ≤ 30000 := by rcases hv with rfl | rfl <;> omega
      refine z_iload zi_52_12 rfl ?_
      refine z_iload zi_52_13 rfl ?_
      refine z_icmp_ge_f zi_52_14 (by omega) (by omega) ?_
      refine z_iload zi_52_15 rfl ?_
      refine z_iload zi_52_16 rfl ?_
      refine z_iload zi_52_17 rfl ?_
      refine z_imul zi_52_18 ?_
      refine z_iadd zi_52_19 ?_
      refine z_istore zi_52_20 rfl ?_
      refine z_iload zi_52_21 rfl ?_
      refine z_iload_n zi_52_22 rfl ?_
      refine z_iload zi_52_23 rfl ?_
      refine z_imul zi_52_24 ?_
      refine z_iadd zi_52_25 ?_
      refine z_iload zi_52_26 rfl ?_
      refine z_cs2i zi_52_27 rfl rfl ⟨by decide, rfl, Nat.le_of_ble_eq_true rfl, Nat.le_of_ble_eq_true rfl⟩ (s_remainder (by omega) (by omega) ?_)
      have hz := Int.emod_nonneg (gM g s w + v * ((f : Int) + n * st)) (show gT g s w ≠ 0 by omega)
      have hz2 := Int.emod_lt_of_pos (gM g s w + v * ((f : Int) + n * st)) (show 0 < gT g s w by omega)
      refine z_if_ne zi_52_28 (by omega) (fun c => ?_) (fun c => ?_)
      · refine z_iinc zi_52_31 rfl rfl ?_
        refine z_goto zi_52_32 ?_
        refine z_loc (lv' := [(8, .int (zi ((n + 1 : Nat) : Int))), (7, .int (zi (gM g s w))), (6, .int (zi (gT g s w))), (0, .ref T), (1, .int (zi s)), (2, .int (zi w)), (3, .int (zi v)), (4, .int (zi f)), (5, .int (zi st))]) rfl ?_
        refine ih (n + 1) (by omega) (fun i hi => ?_)
        rcases (by omega : i < n ∨ i = n) with z | z
        · exact hno i z
        · subst z; exact c
      · refine z_iload zi_52_29 rfl ?_
        refine z_ireturn zi_52_30 rfl (kS n (by omega) (by omega) hno)
  refine z_aload_n zi_52_0 rfl ?_
  refine z_iload_n zi_52_1 rfl ?_
  refine z_iload_n zi_52_2 rfl ?_
  refine z_cv2i zi_52_3 rfl rfl (zt_c hT) ⟨rfl, Nat.le_of_ble_eq_true rfl, Nat.le_of_ble_eq_true rfl⟩ (s_teethOf hT h hw rfl hs rfl hw2 ?_)
  refine z_istore zi_52_4 rfl ?_
  refine z_aload_n zi_52_5 rfl ?_
  refine z_iload_n zi_52_6 rfl ?_
  refine z_iload_n zi_52_7 rfl ?_
  refine z_cv2i zi_52_8 rfl rfl (zt_c hT) ⟨rfl, Nat.le_of_ble_eq_true rfl, Nat.le_of_ble_eq_true rfl⟩ (s_markOf hT h hw rfl hs rfl hw2 ?_)
  refine z_istore zi_52_9 rfl ?_
  refine z_iconst zi_52_10 ?_
  refine z_istore zi_52_11 rfl ?_
  refine z_loc (lv' := [(8, .int (zi ((0 : Nat) : Int))), (7, .int (zi (gM g s w))), (6, .int (zi (gT g s w))), (0, .ref T), (1, .int (zi s)), (2, .int (zi w)), (3, .int (zi v)), (4, .int (zi f)), (5, .int (zi st))]) rfl ?_
  exact loop (gTn g s w) 0 (by omega) (fun i hi => by omega)
theorem s_teethUntilPoint {x mk : Int} {s p : Nat} (hT : zTa T) (h : zTB T t g) (hw : gWF g) (hx : x = (s : Int)) (hs : s < gN g) (hp : gP g s = some p) (hm : 0 ≤ mk ∧ mk < 10) (k : K ((gB g p * (mk - gM g s (1 - gF g p))) % gT g s (1 - gF g p)) t) : ZX (d + 3) 53 0 [(0, .ref T), (1, .int (zi x)), (2, .int (zi mk))] [] t (zKi K) := by
  have hpl := (gP_some hp).1
  have hr := hw.r hpl
  have hB := gB_pm g p
  have h2 := hw.t hs (show 1 - gF g p < 2 by omega)
  have eF : 1 - gFi g s = ((1 - gF g p : Nat) : Int) := by
    unfold gFi
    rw [hp]
    show 1 - ((gF g p : Nat) : Int) = _
    omega
  have eP : gPi g s = (p : Int) := by
    unfold gPi
    rw [hp]
  refine z_aload_n zi_53_0 rfl ?_
  refine z_iload_n zi_53_1 rfl ?_
  refine z_cv1i zi_53_2 rfl (zt_c hT) ⟨rfl, Nat.le_of_ble_eq_true rfl, Nat.le_of_ble_eq_true rfl⟩ (s_backOf hT h hw hx hs ?_)
  rw [eF]
  refine z_istore_n zi_53_3 rfl ?_
  refine z_iload_n zi_53_4 rfl ?_
  refine z_aload_n zi_53_5 rfl ?_
  refine z_iload_n zi_53_6 rfl ?_
  refine z_iload_n zi_53_7 rfl ?_
  refine z_cv2i zi_53_8 rfl rfl (zt_c hT) ⟨rfl, Nat.le_of_ble_eq_true rfl, Nat.le_of_ble_eq_true rfl⟩ (s_markOf (w := 1 - gF g p) hT h hw hx hs rfl (by omega) ?_)
  refine z_isub zi_53_9 ?_
  refine z_istore zi_53_10 rfl ?_
  refine z_aload_n zi_53_11 rfl ?_
  refine z_aload_n zi_53_12 rfl ?_
  refine z_iload_n zi_53_13 rfl ?_
  refine z_cv1i zi_53_14 rfl (zt_c hT) ⟨rfl, Nat.le_of_ble_eq_true rfl, Nat.le_of_ble_eq_true rfl⟩ (s_placeOf hT h hw hx hs ?_)
  refine z_cv1i zi_53_15 rfl (zt_c hT) ⟨rfl, Nat.le_of_ble_eq_true rfl, Nat.le_of_ble_eq_true rfl⟩ (s_backWayAt hT h hw eP hpl ?_)
  refine z_iload zi_53_16 rfl ?_
  refine z_imul zi_53_17 ?_
  refine z_aload_n zi_53_18 rfl ?_
  refine z_iload_n zi_53_19 rfl ?_
  refine z_iload_n zi_53_20 rfl ?_
  refine z_cv2i zi_53_21 rfl rfl (zt_c hT) ⟨rfl, Nat.le_of_ble_eq_true rfl, Nat.le_of_ble_eq_true rfl⟩ (s_teethOf (w := 1 - gF g p) hT h hw hx hs rfl (by omega) ?_)
  have hb : -100 ≤ gB g p * (mk - gM g s (1 - gF g p)) ∧ gB g p * (mk - gM g s (1 - gF g p)) ≤ 100 := by rcases hB with q | q <;> rw [q] <;> omega
  refine z_cs2i zi_53_22 rfl rfl ⟨by decide, rfl, Nat.le_of_ble_eq_true rfl, Nat.le_of_ble_eq_true rfl⟩ (s_remainder (by omega) (by omega) ?_)
  refine z_ireturn zi_53_23 rfl k
end
end
section
/-! after how many teeth all marks are up -/
def gC (m v : Int) (T : Nat) (x : Nat) : Prop := (m + v * (x : Int)) % (T : Int) = 0
theorem gC_sub {m v : Int} {T x y : Nat} (hv : v = 1 ∨ v = -1) (hx : gC m v T x) (hy : gC m v T y) (h : y ≤ x) : T ∣ x - y := by
  have h1 := Int.dvd_of_emod_eq_zero hx
  have h2 := Int.dvd_of_emod_eq_zero hy
  have h3 : (T : Int) ∣ (m + v * (x : Int)) - (m + v * (y : Int)) := Int.dvd_sub h1 h2
  have h4 : (T : Int) ∣ ((x - y : Nat) : Int) := by
    rcases hv with rfl | rfl
    · have e : ((x - y : Nat) : Int) = (m + 1 * (x : Int)) - (m + 1 * (y : Int)) := by omega
      rw [e]; exact h3
    · have e : ((x - y : Nat) : Int) = -((m + -1 * (x : Int)) - (m + -1 * (y : Int))) := by omega
      rw [e]; exact Int.dvd_neg.mpr h3
  exact Int.natCast_dvd_natCast.mp h4
theorem gC_add {m v : Int} {T x y : Nat} (hv : v = 1 ∨ v = -1) (hy : gC m v T y) (h : y ≤ x) (hd : T ∣ x - y) : gC m v T x := by
  have h2 := Int.dvd_of_emod_eq_zero hy
  have h3 : (T : Int) ∣ ((x - y : Nat) : Int) := Int.natCast_dvd_natCast.mpr hd
  refine Int.emod_eq_zero_of_dvd ?_
  rcases hv with rfl | rfl
  · have e : m + 1 * (x : Int) = (m + 1 * (y : Int)) + ((x - y : Nat) : Int) := by omega
    rw [e]; exact Int.dvd_add h2 h3
  · have e : m + -1 * (x : Int) = (m + -1 * (y : Int)) - ((x - y : Nat) : Int) := by omega
    rw [e]; exact Int.dvd_sub h2 h3
theorem gC_down {m v : Int} {T x y : Nat} (hv : v = 1 ∨ v = -1) (hx : gC m v T x) (h : y ≤ x) (hd : T ∣ x - y) : gC m v T y := by
  have h2 := Int.dvd_of_emod_eq_zero hx
  have h3 : (T : Int) ∣ ((x - y : Nat) : Int) := Int.natCast_dvd_natCast.mpr hd
  refine Int.emod_eq_zero_of_dvd ?_
  rcases hv with rfl | rfl
  · have e : m + 1 * (y : Int) = (m + 1 * (x : Int)) - ((x - y : Nat) : Int) := by omega
    rw [e]; exact Int.dvd_sub h2 h3
  · have e : m + -1 * (y : Int) = (m + -1 * (x : Int)) + ((x - y : Nat) : Int) := by omega
    rw [e]; exact Int.dvd_add h2 h3
theorem gsieve_no {m v : Int} {T f s : Nat} (hv : v = 1 ∨ v = -1) (hT : 0 < T) (hn : ∀ j, j < T → ¬ gC m v T (f + j * s)) : ∀ x, ¬ ((f ≤ x ∧ s ∣ x - f) ∧ gC m v T x) := by
  rintro x ⟨⟨hx, j, hj⟩, hc⟩
  have hm := Nat.mod_lt j hT
  refine hn (j % T) hm (gC_down hv hc ?_ ?_)
  · have : j % T * s ≤ s * j := by rw [Nat.mul_comm s j]; exact Nat.mul_le_mul_right s (Nat.mod_le j T)
    omega
  · have e : x - (f + j % T * s) = T * (j / T * s) := by
      have h1 : s * j = T * (j / T * s) + j % T * s := by
        rw [← Nat.mul_assoc, ← Nat.add_mul, Nat.div_add_mod, Nat.mul_comm]
      omega
    rw [e]
    exact Nat.dvd_mul_right T _
theorem gsieve_yes {m v : Int} {T f s j : Nat} (hv : v = 1 ∨ v = -1) (hT : 0 < T) (hs : 0 < s) (hf : f < s) (hj : j < T) (hc : gC m v T (f + j * s)) (hn : ∀ i, i < j → ¬ gC m v T (f + i * s)) :
    f + j * s < Nat.lcm s T ∧ ∀ x, ((f ≤ x ∧ s ∣ x - f) ∧ gC m v T x) ↔ (f + j * s ≤ x ∧ Nat.lcm s T ∣ x - (f + j * s)) := by
  obtain ⟨q, hq⟩ := Nat.dvd_lcm_left s T
  have hlp := Nat.lcm_pos hs hT
  have hq0 : 0 < q := by
    rcases Nat.eq_zero_or_pos q with z | z
    · rw [z, Nat.mul_zero] at hq; omega
    · exact z
  refine ⟨?_, fun x => ⟨?_, ?_⟩⟩
  · have hjq : j < q := by
      rcases Nat.lt_or_ge j q with z | z
      · exact z
      · exfalso
        refine hn (j - q) (by omega) (gC_down hv hc ?_ ?_)
        · have := Nat.mul_le_mul_right s (Nat.sub_le j q)
          omega
        · have e : f + j * s - (f + (j - q) * s) = Nat.lcm s T := by
            rw [hq, Nat.sub_mul, Nat.mul_comm s q]
            have := Nat.mul_le_mul_right s z
            omega
          rw [e]
          exact Nat.dvd_lcm_right s T
    have h1 : (j + 1) * s ≤ q * s := Nat.mul_le_mul_right s hjq
    rw [Nat.succ_mul] at h1
    rw [hq, Nat.mul_comm s q]
    omega
  · rintro ⟨⟨hx, i, hi⟩, hcx⟩
    have hji : j ≤ i := by
      rcases Nat.lt_or_ge i j with z | z
      · exfalso
        refine hn i z ?_
        have e : f + i * s = x := by rw [Nat.mul_comm i s]; omega
        rw [e]; exact hcx
      · exact z
    have h1 := Nat.mul_le_mul_right s hji
    have e : x = f + i * s := by rw [Nat.mul_comm i s]; omega
    refine ⟨by omega, Nat.lcm_dvd ?_ (gC_sub hv hcx hc (by omega))⟩
    refine ⟨i - j, ?_⟩
    rw [Nat.mul_comm s (i - j), Nat.sub_mul]
    omega
  · rintro ⟨hx, hd⟩
    have h1 := Nat.dvd_trans (Nat.dvd_lcm_left s T) hd
    have h2 := Nat.dvd_trans (Nat.dvd_lcm_right s T) hd
    refine ⟨⟨by omega, ?_⟩, gC_add hv hc hx h2⟩
    have e : x - f = (x - (f + j * s)) + s * j := by rw [Nat.mul_comm s j]; omega
    rw [e]
    exact Nat.dvd_add h1 (Nat.dvd_mul_right s j)
def gU (g : zG) (i : Nat) : Nat := if i % 2 = 0 then gF g (i / 2) else 1 - gF g (i / 2)
def gV (g : zG) (i : Nat) : Int := if i % 2 = 0 then gA g (i / 2) else gB g (i / 2)
def gUp (g : zG) (n x : Nat) : Prop := ∀ i, i < n → gC (gM g (gR g (i / 2)) (gU g i)) (gV g i) (gTn g (gR g (i / 2)) (gU g i)) x
theorem gUp_s {g : zG} {n x : Nat} : gUp g (n + 1) x ↔ gUp g n x ∧ gC (gM g (gR g (n / 2)) (gU g n)) (gV g n) (gTn g (gR g (n / 2)) (gU g n)) x := by
  refine ⟨fun h => ⟨fun i hi => h i (by omega), h n (by omega)⟩, fun h i hi => ?_⟩
  rcases (by omega : i < n ∨ i = n) with z | z
  · exact h.1 i z
  · rw [z]; exact h.2
theorem gV_pm (g : zG) (i : Nat) : gV g i = 1 ∨ gV g i = -1 := by
  unfold gV
  split
  · exact gA_pm g _
  · exact gB_pm g _
section
variable {d T : Nat} {t : zMI} {g : zG} {K : Int → zMI → Prop} {Kv : zMI → Prop}
theorem s_teethUntilUp (hT : zTa T) (h : zTB T t g) (hw : gWF g) (kS : ∀ x : Nat, gUp g (2 * gL g) x → (∀ y, y < x → ¬ gUp g (2 * gL g) y) → K x t) (kN : (∀ x, ¬ gUp g (2 * gL g) x) → K (-4) t) : ZX (d + 3) 51 0 [(0, .ref T)] [] t (zKi K) := by
  have hn12 := hw.n
  have loop : ∀ (j n f s : Nat), n + j = 2 * gL g → s ∣ 2520 → f < s → (∀ x, gUp g n x ↔ (f ≤ x ∧ s ∣ x - f)) → ∀ w : Int, (n % 2 = 0 → w = -(gA g (n / 2))) → (n % 2 = 1 → w = gA g (n / 2)) → ZX (d + 3) 51 8 [(4, .int (zi n)), (3, .int (zi w)), (2, .int (zi s)), (1, .int (zi f)), (0, .ref T)] [] t (zKi K) := by
    intro j
    induction j with
    | zero =>
      intro n f s e hs hf hx w hw0 hw1
      have e1 : n = 2 * gL g := by omega
      subst e1
      refine z_iload zi_51_8 rfl ?_
      refine z_iconst zi_51_9 ?_
      refine z_aload_n zi_51_10 rfl ?_
      refine z_getfield zi_51_11 (zt_f7 hT) ?_
      rw [h.l]
      refine z_imul zi_51_12 ?_
      refine z_icmp_ge_t zi_51_13 (by omega) (by omega) ?_
      refine z_iload_n zi_51_69 rfl ?_
      refine z_ireturn zi_51_70 rfl (kS f ((hx f).mpr ⟨Nat.le_refl _, by rw [Nat.sub_self]; exact Nat.dvd_zero s⟩) (fun y hy z => by have := (hx y).mp z; omega))
    | succ j ih =>
      intro n f s e hs hf hx w hw0 hw1
      have hpl : n / 2 < gL g := by omega
      have hr := hw.r hpl
      have hs2 := dvd_rng hs
      have hV := gV_pm g n
      have hUl : gU g n < 2 := by unfold gU; split <;> omega
      have eF : gFi g (gR g (n / 2)) = (gF g (n / 2) : Int) := by
        unfold gFi
        rw [gPi_at hw hpl]
      have hT2 := gTn_eq hw hr.1 hUl
      have hTd := gTn_dvd hw hr.1 hUl
      have e2 : (n : Int).tdiv 2 = ((n / 2 : Nat) : Int) := (Int.ofNat_tdiv n 2).symm
      have e3 : (n : Int).tmod 2 = ((n % 2 : Nat) : Int) := (Int.ofNat_tmod n 2).symm
      -- what follows once wheel and way are known
      have tl : ∀ b : Int, ZX (d + 3) 51 47 [(7, .int (zi (gU g n))), (6, .int (zi b)), (5, .int (zi (gR g (n / 2)))), (4, .int (zi n)), (3, .int (zi w)), (2, .int (zi s)), (1, .int (zi f)), (0, .ref T)] [.int (zi (gV g n))] t (zKi K) := by
        intro b
        refine z_istore_n zi_51_47 rfl ?_
        refine z_aload_n zi_51_48 rfl ?_
        refine z_iload zi_51_49 rfl ?_
        refine z_iload zi_51_50 rfl ?_
        refine z_iload_n zi_51_51 rfl ?_
        refine z_iload_n zi_51_52 rfl ?_
        refine z_iload_n zi_51_53 rfl ?_
        refine z_cv5i zi_51_54 rfl rfl rfl rfl rfl (zt_c hT) ⟨rfl, Nat.le_of_ble_eq_true rfl, Nat.le_of_ble_eq_true rfl⟩ (s_firstUp (s := gR g (n / 2)) (w := gU g n) (f := f) (st := s) hT h hw rfl hr.1 rfl hUl hV rfl (by omega) rfl (by omega) (fun q hq hc hno => ?_) (fun hno => ?_))
        · rw [hT2.1] at hc
          have hc' : gC (gM g (gR g (n / 2)) (gU g n)) (gV g n) (gTn g (gR g (n / 2)) (gU g n)) (f + q * s) := by
            unfold gC
            rw [show ((f + q * s : Nat) : Int) = (f : Int) + q * s by rw [Int.natCast_add, Int.natCast_mul]]
            exact hc
          have hno' : ∀ i, i < q → ¬ gC (gM g (gR g (n / 2)) (gU g n)) (gV g n) (gTn g (gR g (n / 2)) (gU g n)) (f + i * s) := fun i hi z => by
            unfold gC at z
            rw [show ((f + i * s : Nat) : Int) = (f : Int) + i * s by rw [Int.natCast_add, Int.natCast_mul]] at z
            rw [← hT2.1] at z
            exact hno i hi z
          obtain ⟨g1, g2⟩ := gsieve_yes hV (by omega) hs2.1 hf hq hc' hno'
          have hld := Nat.lcm_dvd hs hTd
          have hl2 := dvd_rng hld
          have e4 : (f : Int) + q * s = ((f + q * s : Nat) : Int) := by rw [Int.natCast_add, Int.natCast_mul]
          rw [e4]
          refine z_istore_n zi_51_55 rfl ?_
          refine z_iload_n zi_51_56 rfl ?_
          refine z_if_ge_t zi_51_57 (by omega) (by omega) ?_
          refine z_iload_n zi_51_60 rfl ?_
          refine z_aload_n zi_51_61 rfl ?_
          refine z_iload zi_51_62 rfl ?_
          refine z_iload zi_51_63 rfl ?_
          refine z_cv2i zi_51_64 rfl rfl (zt_c hT) ⟨rfl, Nat.le_of_ble_eq_true rfl, Nat.le_of_ble_eq_true rfl⟩ (s_teethOf (s := gR g (n / 2)) (w := gU g n) hT h hw rfl hr.1 rfl hUl ?_)
          refine z_cs2i zi_51_65 rfl rfl ⟨by decide, rfl, Nat.le_of_ble_eq_true rfl, Nat.le_of_ble_eq_true rfl⟩ (s_commonMultiple rfl hT2.1 (by omega) (by omega) ?_)
          refine z_istore_n zi_51_66 rfl ?_
          refine z_iinc zi_51_67 rfl rfl ?_
          refine z_goto zi_51_68 ?_
          refine z_loc (lv' := [(4, .int (zi ((n + 1 : Nat) : Int))), (3, .int (zi (gV g n))), (2, .int (zi (Nat.lcm s (gTn g (gR g (n / 2)) (gU g n)) : Nat))), (1, .int (zi ((f + q * s : Nat) : Int))), (0, .ref T)]) rfl ?_
          refine ih (n + 1) _ _ (by omega) hld g1 (fun x => ?_) _ (fun z => ?_) (fun z => ?_)
          · rw [gUp_s, hx, g2]
          · unfold gV
            rw [if_neg (by omega), show (n + 1) / 2 = n / 2 + 1 by omega, gA_s]
            omega
          · unfold gV
            rw [if_pos (by omega), show (n + 1) / 2 = n / 2 by omega]
        · have hno' : ∀ i, i < gTn g (gR g (n / 2)) (gU g n) → ¬ gC (gM g (gR g (n / 2)) (gU g n)) (gV g n) (gTn g (gR g (n / 2)) (gU g n)) (f + i * s) := fun i hi z => by
            unfold gC at z
            rw [show ((f + i * s : Nat) : Int) = (f : Int) + i * s by rw [Int.natCast_add, Int.natCast_mul]] at z
            rw [← hT2.1] at z
            exact hno i hi z
          refine z_istore_n zi_51_55 rfl ?_
          refine z_iload_n zi_51_56 rfl ?_
          refine z_if_ge_f zi_51_57 (by omega) (by omega) ?_
          refine z_bipush zi_51_58 (by decide) ?_
          refine z_ireturn zi_51_59 rfl (kN (fun x z => ?_))
          refine gsieve_no hV (by omega) hno' x ⟨(hx x).mp (fun i hi => z i (by omega)), z n (by omega)⟩
      refine z_iload zi_51_8 rfl ?_
      refine z_iconst zi_51_9 ?_
      refine z_aload_n zi_51_10 rfl ?_
      refine z_getfield zi_51_11 (zt_f7 hT) ?_
      rw [h.l]
      refine z_imul zi_51_12 ?_
      refine z_icmp_ge_f zi_51_13 (by omega) (by omega) ?_
      refine z_aload_n zi_51_14 rfl ?_
      refine z_iload zi_51_15 rfl ?_
      refine z_iconst zi_51_16 ?_
      refine z_idiv zi_51_17 (by omega) ?_
      rw [e2]
      refine z_cv1i zi_51_18 rfl (zt_c hT) ⟨rfl, Nat.le_of_ble_eq_true rfl, Nat.le_of_ble_eq_true rfl⟩ (s_stoneInTrain (p := n / 2) hT h hw rfl hpl ?_)
      refine z_istore zi_51_19 rfl ?_
      refine z_iload zi_51_20 rfl ?_
      refine z_iconst zi_51_21 ?_
      refine z_irem zi_51_22 (by omega) ?_
      rw [e3]
      rcases (by omega : n % 2 = 0 ∨ n % 2 = 1) with par | par
      · have eU : (gFi g (gR g (n / 2))) = ((gU g n : Nat) : Int) := by rw [eF]; unfold gU; rw [if_pos par]
        have eV : -w = gV g n := by rw [hw0 par]; unfold gV; rw [if_pos par]; omega
        refine z_if_ne_f zi_51_23 (by omega) (by omega) ?_
        refine z_iconst zi_51_24 ?_
        refine z_goto zi_51_25 ?_
        refine z_istore zi_51_27 rfl ?_
        refine z_iload zi_51_28 rfl ?_
        refine z_if_eq_f zi_51_29 (by omega) (by omega) ?_
        refine z_aload_n zi_51_30 rfl ?_
        refine z_iload zi_51_31 rfl ?_
        refine z_cv1i zi_51_32 rfl (zt_c hT) ⟨rfl, Nat.le_of_ble_eq_true rfl, Nat.le_of_ble_eq_true rfl⟩ (s_frontOf (s := gR g (n / 2)) hT h hw rfl hr.1 ?_)
        refine z_goto zi_51_33 ?_
        refine z_istore zi_51_37 rfl ?_
        refine z_iload zi_51_38 rfl ?_
        refine z_if_eq_f zi_51_39 (by omega) (by omega) ?_
        refine z_iload_n zi_51_40 rfl ?_
        refine z_ineg zi_51_41 ?_
        refine z_goto zi_51_42 ?_
        rw [eV, eU]
        refine z_loc (lv' := [(7, .int (zi (gU g n))), (6, .int (zi 1)), (5, .int (zi (gR g (n / 2)))), (4, .int (zi n)), (3, .int (zi w)), (2, .int (zi s)), (1, .int (zi f)), (0, .ref T)]) rfl ?_
        exact tl 1
      · have eU : 1 - (gFi g (gR g (n / 2))) = ((gU g n : Nat) : Int) := by rw [eF]; unfold gU; rw [if_neg (by omega)]; omega
        refine z_if_ne_t zi_51_23 (by omega) (by omega) ?_
        refine z_iconst zi_51_26 ?_
        refine z_istore zi_51_27 rfl ?_
        refine z_iload zi_51_28 rfl ?_
        refine z_if_eq_t zi_51_29 (by omega) (by omega) ?_
        refine z_aload_n zi_51_34 rfl ?_
        refine z_iload zi_51_35 rfl ?_
        refine z_cv1i zi_51_36 rfl (zt_c hT) ⟨rfl, Nat.le_of_ble_eq_true rfl, Nat.le_of_ble_eq_true rfl⟩ (s_backOf (s := gR g (n / 2)) hT h hw rfl hr.1 ?_)
        refine z_istore zi_51_37 rfl ?_
        refine z_iload zi_51_38 rfl ?_
        refine z_if_eq_t zi_51_39 (by omega) (by omega) ?_
        refine z_aload_n zi_51_43 rfl ?_
        refine z_iload zi_51_44 rfl ?_
        refine z_iload_n zi_51_45 rfl ?_
        refine z_cv2i zi_51_46 rfl rfl (zt_c hT) ⟨rfl, Nat.le_of_ble_eq_true rfl, Nat.le_of_ble_eq_true rfl⟩ (s_backWay (p := n / 2) hT h hw hpl rfl ?_)
        have eV : (if gK g (gR g (n / 2)) = 2 then w else -w) = gV g n := by
          rw [hw1 par]
          unfold gV
          rw [if_neg (show ¬ n % 2 = 0 by omega), gB_eq]
        rw [eV, eU]
        refine z_loc (lv' := [(7, .int (zi (gU g n))), (6, .int (zi 0)), (5, .int (zi (gR g (n / 2)))), (4, .int (zi n)), (3, .int (zi w)), (2, .int (zi s)), (1, .int (zi f)), (0, .ref T)]) rfl ?_
        exact tl 0
  refine z_iconst zi_51_0 ?_
  refine z_istore_n zi_51_1 rfl ?_
  refine z_iconst zi_51_2 ?_
  refine z_istore_n zi_51_3 rfl ?_
  refine z_iconst zi_51_4 ?_
  refine z_istore_n zi_51_5 rfl ?_
  refine z_iconst zi_51_6 ?_
  refine z_istore zi_51_7 rfl ?_
  refine z_loc (lv' := [(4, .int (zi ((0 : Nat) : Int))), (3, .int (zi (-1))), (2, .int (zi ((1 : Nat) : Int))), (1, .int (zi ((0 : Nat) : Int))), (0, .ref T)]) rfl ?_
  exact loop (2 * gL g) 0 0 1 (by omega) (Nat.one_dvd _) (by omega) (fun x => ⟨fun _ => ⟨Nat.zero_le _, Nat.one_dvd _⟩, fun _ i hi => by omega⟩) (-1) (fun _ => rfl) (fun z => by omega)
end
end
section
/-! texts: how stones are read from them -/
abbrev gTx := Nat × (Nat → Int)
def gskf (f : Nat → Int) : Nat → Nat → Nat
  | 0, p => p
  | n + 1, p => if f p = 32 then gskf f n (p + 1) else p
def gsk (x : gTx) (p : Nat) : Nat := gskf x.2 (x.1 - p) p
def gby (x : gTx) (p : Nat) : Int := if p < x.1 then x.2 p else -1
theorem gskf_le {f : Nat → Int} : ∀ n p, p ≤ gskf f n p ∧ gskf f n p ≤ p + n
  | 0, p => ⟨Nat.le_refl _, Nat.le_refl _⟩
  | n + 1, p => by
    have := gskf_le (f := f) n (p + 1)
    unfold gskf
    split <;> omega
theorem gsk_le {x : gTx} {p : Nat} (h : p ≤ x.1) : p ≤ gsk x p ∧ gsk x p ≤ x.1 := by
  have := gskf_le (f := x.2) (x.1 - p) p
  unfold gsk
  omega
theorem gsk_eq {x : gTx} {p : Nat} (h : p < x.1) : gsk x p = if x.2 p = 32 then gsk x (p + 1) else p := by
  unfold gsk
  obtain ⟨n, hn⟩ : ∃ n, x.1 - p = n + 1 := ⟨x.1 - p - 1, by omega⟩
  rw [hn, show x.1 - (p + 1) = n by omega]
  rfl
theorem gsk_end {x : gTx} {p : Nat} (h : ¬ p < x.1) : gsk x p = p := by
  unfold gsk
  rw [show x.1 - p = 0 by omega]
  rfl
theorem gsk_id {x : gTx} : ∀ (n p : Nat), x.1 - p = n → gsk x (gsk x p) = gsk x p
  | 0, p, h => by rw [gsk_end (p := p) (by omega), gsk_end (by omega)]
  | n + 1, p, h => by
    rw [gsk_eq (p := p) (by omega)]
    split
    · exact gsk_id n (p + 1) (by omega)
    · rename_i c
      rw [gsk_eq (by omega), if_neg c]
theorem gskk {x : gTx} {p : Nat} : gsk x (gsk x p) = gsk x p := gsk_id _ p rfl
abbrev gSt := Int × Int × Int × Int × Int
def gkd (x : gTx) (p : Nat) : Int := if gby x p = 112 then 1 else if gby x p = 115 then 2 else if gby x p = 104 then 3 else 0
def gkp (x : gTx) (p : Nat) : Nat := if gby x p = 112 ∨ gby x p = 115 ∨ gby x p = 104 then gsk x (p + 1) else p
/-- a stone from a place on (no blank there): where it can't be read, or the stone and the place behind it -/
def gRs (x : gTx) (p : Nat) : Nat ⊕ (gSt × Nat) :=
  if 3 ≤ gby x p - 48 ∧ gby x p - 48 ≤ 9 then
    if 3 ≤ gby x (gsk x (p + 1)) - 48 ∧ gby x (gsk x (p + 1)) - 48 ≤ 9 then
      if gby x (gkp x (gsk x (gsk x (p + 1) + 1))) = 64 then
        if 0 ≤ gby x (gsk x (gkp x (gsk x (gsk x (p + 1) + 1)) + 1)) - 48 ∧ gby x (gsk x (gkp x (gsk x (gsk x (p + 1) + 1)) + 1)) - 48 ≤ gby x p - 48 - 1 then
          if 0 ≤ gby x (gsk x (gsk x (gkp x (gsk x (gsk x (p + 1) + 1)) + 1) + 1)) - 48 ∧ gby x (gsk x (gsk x (gkp x (gsk x (gsk x (p + 1) + 1)) + 1) + 1)) - 48 ≤ gby x (gsk x (p + 1)) - 48 - 1 then
            .inr ((gkd x (gsk x (gsk x (p + 1) + 1)), gby x p - 48, gby x (gsk x (p + 1)) - 48, gby x (gsk x (gkp x (gsk x (gsk x (p + 1) + 1)) + 1)) - 48, gby x (gsk x (gsk x (gkp x (gsk x (gsk x (p + 1) + 1)) + 1) + 1)) - 48), gsk x (gsk x (gsk x (gkp x (gsk x (gsk x (p + 1) + 1)) + 1) + 1) + 1))
          else .inl (gsk x (gsk x (gkp x (gsk x (gsk x (p + 1) + 1)) + 1) + 1))
        else .inl (gsk x (gkp x (gsk x (gsk x (p + 1) + 1)) + 1))
      else .inr ((gkd x (gsk x (gsk x (p + 1) + 1)), gby x p - 48, gby x (gsk x (p + 1)) - 48, 0, 0), gkp x (gsk x (gsk x (p + 1) + 1)))
    else .inl (gsk x (p + 1))
  else .inl p
def gRr (x : gTx) : Nat → Nat → Nat ⊕ List gSt
  | 0, p => if p = x.1 then .inr [] else .inl p
  | n + 1, p => if p = x.1 then .inr [] else if gby x p = 44 then match gRs x (gsk x (p + 1)) with
      | .inl q => .inl q
      | .inr (y, p') => match gRr x n p' with
        | .inl q => .inl q
        | .inr l => .inr (y :: l)
    else .inl p
def gRx (x : gTx) : Nat ⊕ List gSt := match gRs x (gsk x 0) with
  | .inl q => .inl q
  | .inr (y, p') => match gRr x 7 p' with
    | .inl q => .inl q
    | .inr l => .inr (y :: l)
def gad5 (g : zG) (y : gSt) : zG := (gN g + 1, gL g, fup (gK g) (gN g) y.1, fup2 (fup2 (gT g) (gN g) 0 y.2.1) (gN g) 1 y.2.2.1, fup2 (fup2 (gM g) (gN g) 0 y.2.2.2.1) (gN g) 1 y.2.2.2.2, fup (gH g) (gN g) (-4), gR g, gF g, gO g, gS g, gD g)
def gads (g : zG) : List gSt → zG
  | [] => g
  | y :: l => gads (gad5 g y) l
def gSok (y : gSt) : Prop := (0 ≤ y.1 ∧ y.1 ≤ 3) ∧ (3 ≤ y.2.1 ∧ y.2.1 ≤ 9) ∧ (3 ≤ y.2.2.1 ∧ y.2.2.1 ≤ 9) ∧ (0 ≤ y.2.2.2.1 ∧ y.2.2.2.1 < y.2.1) ∧ (0 ≤ y.2.2.2.2 ∧ y.2.2.2.2 < y.2.2.1)
theorem gkd_rng (x : gTx) (p : Nat) : 0 ≤ gkd x p ∧ gkd x p ≤ 3 := by
  unfold gkd
  split
  · omega
  · split
    · omega
    · split <;> omega
theorem gRs_ok {x : gTx} {p p' : Nat} {y : gSt} (h : gRs x p = .inr (y, p')) : gSok y := by
  unfold gRs at h
  split at h
  · split at h
    · split at h
      · split at h
        · split at h
          · cases h
            refine ⟨gkd_rng _ _, ?_, ?_, ?_, ?_⟩ <;> dsimp only <;> omega
          · cases h
        · cases h
      · cases h
        refine ⟨gkd_rng _ _, ?_, ?_, ?_, ?_⟩ <;> dsimp only <;> omega
    · cases h
  · cases h
theorem gad5_wf {g : zG} (h : gWF g) (hN : gN g < 12) {y : gSt} (hy : gSok y) : gWF (gad5 g y) := by
  refine ⟨⟨hN, Nat.le_succ_of_le h.n.2⟩, fun p hp => ⟨Nat.lt_succ_of_lt (h.r hp).1, (h.r hp).2⟩, h.2.2.1, fun s hs => ?_, fun s w hs hw => ?_, fun s hs => ?_, h.2.2.2.2.2.2.1, h.2.2.2.2.2.2.2⟩
  · have hs' : s < gN g + 1 := hs
    show 0 ≤ fup (gK g) (gN g) y.1 s ∧ fup (gK g) (gN g) y.1 s ≤ 3
    unfold fup
    split
    · exact hy.1
    · exact h.k (by omega)
  · have hs' : s < gN g + 1 := hs
    have e1 : gT (gad5 g y) s w = fup2 (fup2 (gT g) (gN g) 0 y.2.1) (gN g) 1 y.2.2.1 s w := rfl
    have e2 : gM (gad5 g y) s w = fup2 (fup2 (gM g) (gN g) 0 y.2.2.2.1) (gN g) 1 y.2.2.2.2 s w := rfl
    obtain ⟨h1, h2, h3, h4, h5⟩ := hy
    rw [e1, e2]
    unfold fup2
    by_cases q : s = gN g
    · rcases (by omega : w = 0 ∨ w = 1) with rfl | rfl
      · rw [if_neg (fun z => absurd z.2 (by omega)), if_pos ⟨q, rfl⟩, if_neg (fun z => absurd z.2 (by omega)), if_pos ⟨q, rfl⟩]
        omega
      · rw [if_pos ⟨q, rfl⟩, if_pos ⟨q, rfl⟩]
        omega
    · rw [if_neg (fun z => q z.1), if_neg (fun z => q z.1), if_neg (fun z => q z.1), if_neg (fun z => q z.1)]
      exact h.t (by omega) hw
  · have hs' : s < gN g + 1 := hs
    show fup (gH g) (gN g) (-4) s = -4 ∨ fup (gH g) (gN g) (-4) s = 0 ∨ fup (gH g) (gN g) (-4) s = 1
    unfold fup
    split
    · exact Or.inl rfl
    · exact h.h (by omega)
def zTP (t : zMI) (x : gTx) : Prop := t 37 1 = (x.1 : Int) ∧ (∀ i, i < x.1 → t 38 i = x.2 i) ∧ x.1 ≤ 80 ∧ (∀ i, i < x.1 → 32 ≤ x.2 i ∧ x.2 i ≤ 126)
theorem zTP_up {t : zMI} {x : gTx} {v : Int} (h : zTP t x) : zTP (zup t 37 2 v) x := by
  refine ⟨?_, ?_, h.2.2.1, h.2.2.2⟩
  · rw [zup_n (by omega)]; exact h.1
  · intro i hi
    rw [zup_o (by omega)]; exact h.2.1 i hi
theorem zup2 (t : zMI) (b n : Nat) (v w : Int) : zup (zup t b n v) b n w = zup t b n w := by
  funext k j
  unfold zup
  by_cases h : k = b
  · rw [if_pos h]
    by_cases h2 : j = n
    · rw [if_pos h2, if_pos h, if_pos h2]
    · rw [if_neg h2, if_pos h, if_neg h2, if_pos h, if_neg h2]
  · rw [if_neg h, if_neg h, if_neg h]
theorem gby_rng {t : zMI} {x : gTx} (h : zTP t x) (p : Nat) : gby x p = -1 ∨ (32 ≤ gby x p ∧ gby x p ≤ 126) := by
  unfold gby
  split
  · rename_i q
    exact Or.inr (h.2.2.2 p q)
  · exact Or.inl rfl
section
variable {d T : Nat} {t : zMI} {g : zG} {x : gTx} {K : Int → zMI → Prop} {Kv : zMI → Prop}
theorem s_length (h : zTP t x) (k : K x.1 t) : ZX d 56 0 [(0, .ref 37)] [] t (zKi K) := by
  refine z_aload_n zi_56_0 rfl ?_
  refine z_getfield zi_56_1 rfl ?_
  show ZX d 56 2 _ [.int (zi (t 37 1))] t _
  rw [h.1]
  refine z_ireturn zi_56_2 rfl k
theorem s_addByte {b : Int} (h : zTP t x) (hl : x.1 < 80) (k : Kv (zup (zup t 38 x.1 b) 37 1 ((x.1 : Int) + 1))) : ZX (d + 1) 57 0 [(0, .ref 37), (1, .int (zi b))] [] t (zKv Kv) := by
  refine z_aload_n zi_57_0 rfl ?_
  refine z_getfield zi_57_1 rfl ?_
  refine z_aload_n zi_57_2 rfl ?_
  refine z_getfield zi_57_3 rfl ?_
  refine z_top h.1 ?_
  refine z_iload_n zi_57_4 rfl ?_
  refine z_cs3v zi_57_5 rfl rfl rfl ⟨by decide, rfl, Nat.le_of_ble_eq_true rfl, Nat.le_of_ble_eq_true rfl⟩ (s_put (N := 80) (n := x.1) rfl (by omega) rfl hl ?_)
  refine z_aload_n zi_57_6 rfl ?_
  refine z_dup zi_57_7 rfl ?_
  refine z_getfield zi_57_8 rfl ?_
  refine z_top (b := (x.1 : Int)) (by rw [zup_o (by omega)]; exact h.1) ?_
  refine z_iconst zi_57_9 ?_
  refine z_iadd zi_57_10 ?_
  refine z_putfield zi_57_11 rfl (Or.inl rfl) ?_
  refine z_vreturn zi_57_12 rfl k
theorem s_empty (k : Kv (zup t 37 1 0)) : ZX d 58 0 [(0, .ref 37)] [] t (zKv Kv) := by
  refine z_aload_n zi_58_0 rfl ?_
  refine z_iconst zi_58_1 ?_
  refine z_putfield zi_58_2 rfl (Or.inl rfl) ?_
  refine z_vreturn zi_58_3 rfl k
theorem s_stepOn {p : Nat} (h : zTP t x) (hp : t 37 2 = (p : Int) - 1) (hl : p ≤ x.1) (k : Kv (zup t 37 2 (gsk x p))) : ZX (d + 1) 60 0 [(0, .ref 37)] [] t (zKv Kv) := by
  have loop : ∀ (n p : Nat) (t' : zMI), x.1 - p = n → p ≤ x.1 → zTP t' x → t' 37 2 = (p : Int) - 1 → Kv (zup t' 37 2 (gsk x p)) → ZX (d + 1) 60 0 [(0, .ref 37)] [] t' (zKv Kv) := by
    intro n
    induction n with
    | zero =>
      intro p t' hn hl h hp k
      have e : gsk x p = p := gsk_end (by omega)
      rw [e] at k
      have h' := zTP_up (v := (p : Int)) h
      refine z_aload_n zi_60_0 rfl ?_
      refine z_dup zi_60_1 rfl ?_
      refine z_getfield zi_60_2 rfl ?_
      refine z_top hp ?_
      refine z_iconst zi_60_3 ?_
      refine z_iadd zi_60_4 ?_
      refine z_top (b := (p : Int)) (by omega) ?_
      refine z_putfield zi_60_5 rfl (Or.inl rfl) ?_
      refine z_aload_n zi_60_6 rfl ?_
      refine z_getfield zi_60_7 rfl ?_
      refine z_top (b := (p : Int)) zup_s ?_
      refine z_aload_n zi_60_8 rfl ?_
      refine z_getfield zi_60_9 rfl ?_
      refine z_top h'.1 ?_
      have h80 := h.2.2.1
      refine z_icmp_ge_t zi_60_10 (by omega) (by omega) ?_
      refine z_vreturn zi_60_18 rfl k
    | succ n ih =>
      intro p t' hn hl h hp k
      have h' := zTP_up (v := (p : Int)) h
      have h80 := h.2.2.1
      have hc := h.2.2.2 p (by omega)
      rw [gsk_eq (by omega)] at k
      refine z_aload_n zi_60_0 rfl ?_
      refine z_dup zi_60_1 rfl ?_
      refine z_getfield zi_60_2 rfl ?_
      refine z_top hp ?_
      refine z_iconst zi_60_3 ?_
      refine z_iadd zi_60_4 ?_
      refine z_top (b := (p : Int)) (by omega) ?_
      refine z_putfield zi_60_5 rfl (Or.inl rfl) ?_
      refine z_aload_n zi_60_6 rfl ?_
      refine z_getfield zi_60_7 rfl ?_
      refine z_top (b := (p : Int)) zup_s ?_
      refine z_aload_n zi_60_8 rfl ?_
      refine z_getfield zi_60_9 rfl ?_
      refine z_top h'.1 ?_
      refine z_icmp_ge_f zi_60_10 (by omega) (by omega) ?_
      refine z_aload_n zi_60_11 rfl ?_
      refine z_getfield zi_60_12 rfl ?_
      refine z_aload_n zi_60_13 rfl ?_
      refine z_getfield zi_60_14 rfl ?_
      refine z_top (b := (p : Int)) zup_s ?_
      refine z_cs2i zi_60_15 rfl rfl ⟨by decide, rfl, Nat.le_of_ble_eq_true rfl, Nat.le_of_ble_eq_true rfl⟩ (s_at (N := 80) (n := p) rfl (by omega) rfl (by omega) ?_)
      refine z_top (h'.2.1 p (by omega)) ?_
      refine z_bipush zi_60_16 (by decide) ?_
      refine z_icmp_eq zi_60_17 (by omega) (fun c => ?_) (fun c => ?_)
      · rw [if_pos c] at k
        exact ih (p + 1) _ (by omega) (by omega) h' (by rw [zup_s]; omega) (by rw [zup2]; exact k)
      · rw [if_neg c] at k
        refine z_vreturn zi_60_18 rfl k
  exact loop _ p t rfl hl h hp k
theorem s_readDigit {p : Nat} {lo hi : Int} (h : zTP t x) (hp : t 37 2 = (p : Int)) (hl : p ≤ x.1) (hlo : 0 ≤ lo ∧ lo < 10) (hhi : -1 ≤ hi ∧ hi < 10) (kt : lo ≤ gby x p - 48 ∧ gby x p - 48 ≤ hi → K (gby x p - 48) (zup t 37 2 (gsk x (p + 1)))) (kf : ¬ (lo ≤ gby x p - 48 ∧ gby x p - 48 ≤ hi) → K (-4) t) : ZX (d + 2) 64 0 [(0, .ref 37), (1, .int (zi lo)), (2, .int (zi hi))] [] t (zKi K) := by
  have h80 := h.2.2.1
  refine z_aload_n zi_64_0 rfl ?_
  refine z_getfield zi_64_1 rfl ?_
  refine z_top hp ?_
  refine z_aload_n zi_64_2 rfl ?_
  refine z_getfield zi_64_3 rfl ?_
  refine z_top h.1 ?_
  refine z_icmp_ge zi_64_4 (by omega) (fun c => ?_) (fun c => ?_)
  · have e : gby x p = -1 := by unfold gby; rw [if_neg (by omega)]
    rw [e] at kf
    refine z_bipush zi_64_13 (by decide) ?_
    refine z_istore_n zi_64_14 rfl ?_
    refine z_iload_n zi_64_15 rfl ?_
    refine z_iload_n zi_64_16 rfl ?_
    refine z_iload_n zi_64_17 rfl ?_
    refine z_cs3i zi_64_18 rfl rfl rfl ⟨by decide, rfl, Nat.le_of_ble_eq_true rfl, Nat.le_of_ble_eq_true rfl⟩ (s_within (by omega) (by omega) (by omega) (fun q => ?_) (fun q => ?_))
    · omega
    · refine z_if_ne_f zi_64_19 (by omega) (by omega) ?_
      refine z_bipush zi_64_20 (by decide) ?_
      refine z_ireturn zi_64_21 rfl (kf (by omega))
  · have e : gby x p = x.2 p := by unfold gby; rw [if_pos (by omega)]
    have hc := h.2.2.2 p (by omega)
    rw [e] at kt kf
    refine z_aload_n zi_64_5 rfl ?_
    refine z_getfield zi_64_6 rfl ?_
    refine z_aload_n zi_64_7 rfl ?_
    refine z_getfield zi_64_8 rfl ?_
    refine z_top hp ?_
    refine z_cs2i zi_64_9 rfl rfl ⟨by decide, rfl, Nat.le_of_ble_eq_true rfl, Nat.le_of_ble_eq_true rfl⟩ (s_at (N := 80) (n := p) rfl (by omega) rfl (by omega) ?_)
    refine z_top (h.2.1 p (by omega)) ?_
    refine z_bipush zi_64_10 (by decide) ?_
    refine z_isub zi_64_11 ?_
    refine z_goto zi_64_12 ?_
    refine z_istore_n zi_64_14 rfl ?_
    refine z_iload_n zi_64_15 rfl ?_
    refine z_iload_n zi_64_16 rfl ?_
    refine z_iload_n zi_64_17 rfl ?_
    refine z_cs3i zi_64_18 rfl rfl rfl ⟨by decide, rfl, Nat.le_of_ble_eq_true rfl, Nat.le_of_ble_eq_true rfl⟩ (s_within (by omega) (by omega) (by omega) (fun q => ?_) (fun q => ?_))
    · refine z_if_ne_t zi_64_19 (by omega) (by omega) ?_
      refine z_aload_n zi_64_22 rfl ?_
      refine z_cv0v zi_64_23  rfl ⟨rfl, Nat.le_of_ble_eq_true rfl, Nat.le_of_ble_eq_true rfl⟩ (s_stepOn (p := p + 1) h (by omega) (by omega) ?_)
      refine z_iload_n zi_64_24 rfl ?_
      refine z_ireturn zi_64_25 rfl (kt q)
    · refine z_if_ne_f zi_64_19 (by omega) (by omega) ?_
      refine z_bipush zi_64_20 (by decide) ?_
      refine z_ireturn zi_64_21 rfl (kf q)
theorem s_readSign {p : Nat} {ch : Int} (h : zTP t x) (hp : t 37 2 = (p : Int)) (hl : p ≤ x.1) (hch : 0 ≤ ch ∧ ch < 1000) (kt : gby x p = ch → K 1 (zup t 37 2 (gsk x (p + 1)))) (kf : ¬ gby x p = ch → K 0 t) : ZX (d + 2) 65 0 [(0, .ref 37), (1, .int (zi ch))] [] t (zKi K) := by
  have h80 := h.2.2.1
  refine z_aload_n zi_65_0 rfl ?_
  refine z_getfield zi_65_1 rfl ?_
  refine z_top hp ?_
  refine z_aload_n zi_65_2 rfl ?_
  refine z_getfield zi_65_3 rfl ?_
  refine z_top h.1 ?_
  refine z_icmp_ge zi_65_4 (by omega) (fun c => ?_) (fun c => ?_)
  · have e : gby x p = -1 := by unfold gby; rw [if_neg (by omega)]
    rw [e] at kf
    refine z_iconst zi_65_12 ?_
    refine z_zreturn zi_65_13 rfl (by omega) (kf (by omega))
  · have e : gby x p = x.2 p := by unfold gby; rw [if_pos (by omega)]
    have hc := h.2.2.2 p (by omega)
    rw [e] at kt kf
    refine z_aload_n zi_65_5 rfl ?_
    refine z_getfield zi_65_6 rfl ?_
    refine z_aload_n zi_65_7 rfl ?_
    refine z_getfield zi_65_8 rfl ?_
    refine z_top hp ?_
    refine z_cs2i zi_65_9 rfl rfl ⟨by decide, rfl, Nat.le_of_ble_eq_true rfl, Nat.le_of_ble_eq_true rfl⟩ (s_at (N := 80) (n := p) rfl (by omega) rfl (by omega) ?_)
    refine z_top (h.2.1 p (by omega)) ?_
    refine z_iload_n zi_65_10 rfl ?_
    refine z_icmp_eq zi_65_11 (by omega) (fun c2 => ?_) (fun c2 => ?_)
    · refine z_aload_n zi_65_14 rfl ?_
      refine z_cv0v zi_65_15  rfl ⟨rfl, Nat.le_of_ble_eq_true rfl, Nat.le_of_ble_eq_true rfl⟩ (s_stepOn (p := p + 1) h (by omega) (by omega) ?_)
      refine z_iconst zi_65_16 ?_
      refine z_zreturn zi_65_17 rfl (by omega) (kt c2)
    · refine z_iconst zi_65_12 ?_
      refine z_zreturn zi_65_13 rfl (by omega) (kf c2)
theorem s_readKind {p : Nat} (h : zTP t x) (hp : t 37 2 = (p : Int)) (hl : p ≤ x.1) (k : K (gkd x p) (zup t 37 2 (gkp x p))) : ZX (d + 3) 63 0 [(0, .ref 37)] [] t (zKi K) := by
  unfold gkd gkp at k
  refine z_aload_n zi_63_0 rfl ?_
  refine z_bipush zi_63_1 (by decide) ?_
  refine z_cv1i zi_63_2 rfl rfl ⟨rfl, Nat.le_of_ble_eq_true rfl, Nat.le_of_ble_eq_true rfl⟩ (s_readSign h hp hl (by omega) (fun q => ?_) (fun q => ?_))
  · rw [if_pos q, if_pos (Or.inl q)] at k
    refine z_if_eq_f zi_63_3 (by omega) (by omega) ?_
    refine z_iconst zi_63_4 ?_
    refine z_goto zi_63_5 ?_
    refine z_ireturn zi_63_19 rfl k
  · rw [if_neg q] at k
    refine z_if_eq_t zi_63_3 (by omega) (by omega) ?_
    refine z_aload_n zi_63_6 rfl ?_
    refine z_bipush zi_63_7 (by decide) ?_
    refine z_cv1i zi_63_8 rfl rfl ⟨rfl, Nat.le_of_ble_eq_true rfl, Nat.le_of_ble_eq_true rfl⟩ (s_readSign h hp hl (by omega) (fun q2 => ?_) (fun q2 => ?_))
    · rw [if_pos q2, if_pos (Or.inr (Or.inl q2))] at k
      refine z_if_eq_f zi_63_9 (by omega) (by omega) ?_
      refine z_iconst zi_63_10 ?_
      refine z_goto zi_63_11 ?_
      refine z_ireturn zi_63_19 rfl k
    · rw [if_neg q2] at k
      refine z_if_eq_t zi_63_9 (by omega) (by omega) ?_
      refine z_aload_n zi_63_12 rfl ?_
      refine z_bipush zi_63_13 (by decide) ?_
      refine z_cv1i zi_63_14 rfl rfl ⟨rfl, Nat.le_of_ble_eq_true rfl, Nat.le_of_ble_eq_true rfl⟩ (s_readSign h hp hl (by omega) (fun q3 => ?_) (fun q3 => ?_))
      · rw [if_pos q3, if_pos (Or.inr (Or.inr q3))] at k
        refine z_if_eq_f zi_63_15 (by omega) (by omega) ?_
        refine z_iconst zi_63_16 ?_
        refine z_goto zi_63_17 ?_
        refine z_ireturn zi_63_19 rfl k
      · rw [if_neg q3, if_neg (by omega)] at k
        refine z_if_eq_t zi_63_15 (by omega) (by omega) ?_
        refine z_iconst zi_63_18 ?_
        have e : zup t 37 2 (p : Int) = t := by
          funext k j
          unfold zup
          by_cases z : k = 37
          · rw [if_pos z]
            by_cases z2 : j = 2
            · rw [if_pos z2, z, z2]; exact hp.symm
            · rw [if_neg z2]
          · rw [if_neg z]
        rw [e] at k
        refine z_ireturn zi_63_19 rfl k
end
end
section
/-! texts: stones, one behind the other -/
theorem zTP_fr {t t' : zMI} {x : gTx} (h : zTP t x) (e1 : t' 37 1 = t 37 1) (e2 : t' 38 = t 38) : zTP t' x := ⟨e1.trans h.1, fun i hi => by rw [e2]; exact h.2.1 i hi, h.2.2.1, h.2.2.2⟩
/-- what a reader may change: the table T, and the place on the tape -/
def zFp (T : Nat) (t t' : zMI) : Prop := ∀ k j, (k < T ∨ T + 9 ≤ k) → ¬ (k = 37 ∧ j = 2) → t' k j = t k j
theorem zFp.rf {T : Nat} {t : zMI} : zFp T t t := fun _ _ _ _ => rfl
theorem zFp.tr {T : Nat} {t t' t'' : zMI} (h : zFp T t t') (h' : zFp T t' t'') : zFp T t t'' := fun k j hk hj => (h' k j hk hj).trans (h k j hk hj)
theorem zFp.up {T : Nat} {t : zMI} {v : Int} : zFp T t (zup t 37 2 v) := fun k j _ hj => by
  by_cases h : k = 37
  · rw [h, zup_n (fun q => hj ⟨h, q⟩)]
  · rw [zup_o h]
theorem zFp.fr {T : Nat} {t t' : zMI} (h : zFr T t t') : zFp T t t' := fun k j hk _ => by rw [h k hk]
theorem zTa_lt {T : Nat} (h : zTa T) : T + 9 ≤ 37 := by unfold zTa at h; omega
theorem zTP_fp {T : Nat} {t t' : zMI} {x : gTx} (hT : zTa T) (h : zTP t x) (f : zFp T t t') : zTP t' x := by
  have := zTa_lt hT
  exact zTP_fr h (f 37 1 (by omega) (by omega)) (funext fun j => f 38 j (by omega) (by omega))
theorem zTB_tape {T : Nat} {t : zMI} {g : zG} {v : Int} (hT : zTa T) (h : zTB T t g) : zTB T (zup t 37 2 v) g := by
  have := zTa_lt hT
  exact zTB_congr h (fun k _ hk => zup_o (by omega))
section
variable {d T : Nat} {t : zMI} {g : zG} {x : gTx} {K : Int → zMI → Prop} {Kv : zMI → Prop}
theorem s_readMark {a b : Int} {s w p : Nat} (hT : zTa T) (h : zTB T t g) (hw : gWF g) (hx : zTP t x) (hp : t 37 2 = (p : Int)) (hl : p ≤ x.1) (ha : a = (s : Int)) (hs : s < gN g) (hb : b = (w : Int)) (hw2 : w < 2)
    (kt : 0 ≤ gby x p - 48 ∧ gby x p - 48 ≤ gT g s w - 1 → K 1 (zup (zup t 37 2 (gsk x (p + 1))) (T + 3) (2 * s + w) (gby x p - 48))) (kf : ¬ (0 ≤ gby x p - 48 ∧ gby x p - 48 ≤ gT g s w - 1) → K 0 t) : ZX (d + 3) 62 0 [(0, .ref 37), (1, .ref T), (2, .int (zi a)), (3, .int (zi b))] [] t (zKi K) := by
  have ht := hw.t hs hw2
  have hn := hw.n
  have hg := gby_rng hx p
  refine z_aload_n zi_62_0 rfl ?_
  refine z_iconst zi_62_1 ?_
  refine z_aload_n zi_62_2 rfl ?_
  refine z_iload_n zi_62_3 rfl ?_
  refine z_iload_n zi_62_4 rfl ?_
  refine z_cv2i zi_62_5 rfl rfl (zt_c hT) ⟨rfl, Nat.le_of_ble_eq_true rfl, Nat.le_of_ble_eq_true rfl⟩ (s_teethOf hT h hw ha hs hb hw2 ?_)
  refine z_iconst zi_62_6 ?_
  refine z_isub zi_62_7 ?_
  refine z_cv2i zi_62_8 rfl rfl rfl ⟨rfl, Nat.le_of_ble_eq_true rfl, Nat.le_of_ble_eq_true rfl⟩ (s_readDigit hx hp hl (by omega) (by omega) (fun q => ?_) (fun q => ?_))
  · refine z_istore zi_62_9 rfl ?_
    refine z_iload zi_62_10 rfl ?_
    refine z_if_ge_t zi_62_11 (by omega) (by omega) ?_
    refine z_aload_n zi_62_14 rfl ?_
    refine z_iload_n zi_62_15 rfl ?_
    refine z_iload_n zi_62_16 rfl ?_
    refine z_iload zi_62_17 rfl ?_
    refine z_cv3v zi_62_18 rfl rfl rfl (zt_c hT) ⟨rfl, Nat.le_of_ble_eq_true rfl, Nat.le_of_ble_eq_true rfl⟩ (s_setMark (s := s) (w := w) hT ha (by omega) hb hw2 ?_)
    refine z_iconst zi_62_19 ?_
    refine z_zreturn zi_62_20 rfl (by omega) (kt q)
  · refine z_istore zi_62_9 rfl ?_
    refine z_iload zi_62_10 rfl ?_
    refine z_if_ge_f zi_62_11 (by omega) (by omega) ?_
    refine z_iconst zi_62_12 ?_
    refine z_zreturn zi_62_13 rfl (by omega) (kf q)
theorem s_readStone {p : Nat} (hT : zTa T) (h : zTB T t g) (hw : gWF g) (hN : gN g < 12) (hx : zTP t x) (hp : t 37 2 = (p : Int)) (hl : p ≤ x.1)
    (kt : ∀ y p' t', gRs x p = .inr (y, p') → p' ≤ x.1 → zTB T t' (gad5 g y) → zFp T t t' → t' 37 2 = (p' : Int) → K 1 t') (kf : ∀ q t', gRs x p = .inl q → q ≤ x.1 → zFp T t t' → t' 37 2 = (q : Int) → K 0 t') : ZX (d + 4) 61 0 [(0, .ref 37), (1, .ref T)] [] t (zKi K) := by
  have hT37 := zTa_lt hT
  have hby : ∀ q, gby x q ≠ -1 → q < x.1 := fun q hq => by
    unfold gby at hq
    by_cases z : q < x.1
    · exact z
    · rw [if_neg z] at hq; exact absurd rfl hq
  unfold gRs at kt kf
  have hg := gby_rng hx p
  refine z_aload_n zi_61_0 rfl ?_
  refine z_iconst zi_61_1 ?_
  refine z_bipush zi_61_2 (by decide) ?_
  refine z_cv2i zi_61_3 rfl rfl rfl ⟨rfl, Nat.le_of_ble_eq_true rfl, Nat.le_of_ble_eq_true rfl⟩ (s_readDigit hx hp hl (by omega) (by omega) (fun q1 => ?_) (fun q1 => ?_))
  rotate_left
  · refine z_istore_n zi_61_4 rfl ?_
    refine z_iload_n zi_61_5 rfl ?_
    refine z_if_ge_f zi_61_6 (by omega) (by omega) ?_
    refine z_bipush zi_61_7 (by decide) ?_
    refine z_goto zi_61_8 ?_
    refine z_istore_n zi_61_13 rfl ?_
    refine z_iload_n zi_61_14 rfl ?_
    refine z_if_ge_f zi_61_15 (by omega) (by omega) ?_
    refine z_iconst zi_61_16 ?_
    refine z_zreturn zi_61_17 rfl (by omega) (kf p t (by rw [if_neg q1]) hl zFp.rf hp)
  have hl0 := hby p (by omega)
  have hs1 := gsk_le (x := x) (p := p + 1) (by omega)
  rw [if_pos q1] at kt kf
  generalize hd1 : gsk x (p + 1) = p1 at hs1 kt kf ⊢
  have hx1 := zTP_up (v := (p1 : Int)) hx
  have h1 := zTB_tape (v := (p1 : Int)) hT h
  have f1 : zFp T t (zup t 37 2 (p1 : Int)) := zFp.up
  have hp1 : zup t 37 2 (p1 : Int) 37 2 = (p1 : Int) := zup_s
  generalize zup t 37 2 (p1 : Int) = t1 at hx1 h1 f1 hp1 ⊢
  have hg1 := gby_rng hx1 p1
  refine z_istore_n zi_61_4 rfl ?_
  refine z_iload_n zi_61_5 rfl ?_
  refine z_if_ge_t zi_61_6 (by omega) (by omega) ?_
  refine z_aload_n zi_61_9 rfl ?_
  refine z_iconst zi_61_10 ?_
  refine z_bipush zi_61_11 (by decide) ?_
  refine z_cv2i zi_61_12 rfl rfl rfl ⟨rfl, Nat.le_of_ble_eq_true rfl, Nat.le_of_ble_eq_true rfl⟩ (s_readDigit hx1 hp1 hs1.2 (by omega) (by omega) (fun q2 => ?_) (fun q2 => ?_))
  rotate_left
  · refine z_istore_n zi_61_13 rfl ?_
    refine z_iload_n zi_61_14 rfl ?_
    refine z_if_ge_f zi_61_15 (by omega) (by omega) ?_
    refine z_iconst zi_61_16 ?_
    refine z_zreturn zi_61_17 rfl (by omega) (kf p1 t1 (by rw [if_neg q2]) hs1.2 f1 hp1)
  have hl1 := hby p1 (by omega)
  have hs2 := gsk_le (x := x) (p := p1 + 1) (by omega)
  rw [if_pos q2] at kt kf
  generalize hd2 : gsk x (p1 + 1) = p2 at hs2 kt kf ⊢
  have hx2 := zTP_up (v := (p2 : Int)) hx1
  have h2 := zTB_tape (v := (p2 : Int)) hT h1
  have f2 : zFp T t (zup t1 37 2 (p2 : Int)) := f1.tr zFp.up
  have hp2 : zup t1 37 2 (p2 : Int) 37 2 = (p2 : Int) := zup_s
  generalize zup t1 37 2 (p2 : Int) = t2 at hx2 h2 f2 hp2 ⊢
  refine z_istore_n zi_61_13 rfl ?_
  refine z_iload_n zi_61_14 rfl ?_
  refine z_if_ge_t zi_61_15 (by omega) (by omega) ?_
  refine z_aload_n zi_61_18 rfl ?_
  refine z_aload_n zi_61_19 rfl ?_
  refine z_cv0i zi_61_20  rfl ⟨rfl, Nat.le_of_ble_eq_true rfl, Nat.le_of_ble_eq_true rfl⟩ (s_readKind hx2 hp2 hs2.2 ?_)
  have hs3 : gkp x p2 ≤ x.1 := by
    unfold gkp
    split
    · rename_i z
      exact (gsk_le (hby p2 (by omega))).2
    · exact hs2.2
  generalize hd3 : gkp x p2 = p3 at hs3 kt kf ⊢
  have hkd := gkd_rng x p2
  have hx3 := zTP_up (v := (p3 : Int)) hx2
  have h3 := zTB_tape (v := (p3 : Int)) hT h2
  have f3 : zFp T t (zup t2 37 2 (p3 : Int)) := f2.tr zFp.up
  have hp3 : zup t2 37 2 (p3 : Int) 37 2 = (p3 : Int) := zup_s
  generalize zup t2 37 2 (p3 : Int) = t3 at hx3 h3 f3 hp3 ⊢
  refine z_iload_n zi_61_21 rfl ?_
  refine z_iload_n zi_61_22 rfl ?_
  refine z_cv3i zi_61_23 rfl rfl rfl (zt_c hT) ⟨rfl, Nat.le_of_ble_eq_true rfl, Nat.le_of_ble_eq_true rfl⟩ (s_addStone hT h3 hw hN (fun t4 h4 f4 => ?_))
  have f34 := f3.tr (zFp.fr f4)
  have hx4 : zTP t4 x := zTP_fp hT hx3 (zFp.fr f4)
  have hp4 : t4 37 2 = (p3 : Int) := by rw [f4 37 (by omega)]; exact hp3
  have w4 : gWF (gadd g (gkd x p2) (gby x p - 48) (gby x p1 - 48)) := gad5_wf (y := (gkd x p2, gby x p - 48, gby x p1 - 48, 0, 0)) hw hN ⟨hkd, q1, q2, by dsimp only; omega, by dsimp only; omega⟩
  have eT0 : gT (gadd g (gkd x p2) (gby x p - 48) (gby x p1 - 48)) (gN g) 0 = gby x p - 48 := by
    show fup2 (fup2 (gT g) (gN g) 0 _) (gN g) 1 _ (gN g) 0 = _
    unfold fup2
    rw [if_neg (fun z => absurd z.2 (by omega)), if_pos ⟨rfl, rfl⟩]
  have eT1 : gT (gadd g (gkd x p2) (gby x p - 48) (gby x p1 - 48)) (gN g) 1 = gby x p1 - 48 := by
    show fup2 (fup2 (gT g) (gN g) 0 _) (gN g) 1 _ (gN g) 1 = _
    unfold fup2
    rw [if_pos ⟨rfl, rfl⟩]
  refine z_istore zi_61_24 rfl ?_
  refine z_aload_n zi_61_25 rfl ?_
  refine z_bipush zi_61_26 (by decide) ?_
  refine z_cv1i zi_61_27 rfl rfl ⟨rfl, Nat.le_of_ble_eq_true rfl, Nat.le_of_ble_eq_true rfl⟩ (s_readSign hx4 hp4 hs3 (by omega) (fun q4 => ?_) (fun q4 => ?_))
  rotate_left
  · rw [if_neg q4] at kt
    refine z_if_eq_t zi_61_28 (by omega) (by omega) ?_
    refine z_iconst zi_61_41 ?_
    refine z_goto zi_61_42 ?_
    refine z_zreturn zi_61_44 rfl (by omega) (kt _ p3 t4 rfl hs3 h4 f34 hp4)
  have hl3 := hby p3 (by omega)
  have hs5 := gsk_le (x := x) (p := p3 + 1) (by omega)
  rw [if_pos q4] at kt kf
  generalize hd5 : gsk x (p3 + 1) = p5 at hs5 kt kf ⊢
  have hx5 := zTP_up (v := (p5 : Int)) hx4
  have h5 := zTB_tape (v := (p5 : Int)) hT h4
  have f5 : zFp T t (zup t4 37 2 (p5 : Int)) := f34.tr zFp.up
  have hp5 : zup t4 37 2 (p5 : Int) 37 2 = (p5 : Int) := zup_s
  generalize zup t4 37 2 (p5 : Int) = t5 at hx5 h5 f5 hp5 ⊢
  have hg5 := gby_rng hx5 p5
  refine z_if_eq_f zi_61_28 (by omega) (by omega) ?_
  refine z_aload_n zi_61_29 rfl ?_
  refine z_aload_n zi_61_30 rfl ?_
  refine z_iload zi_61_31 rfl ?_
  refine z_iconst zi_61_32 ?_
  refine z_cv3i zi_61_33 rfl rfl rfl rfl ⟨rfl, Nat.le_of_ble_eq_true rfl, Nat.le_of_ble_eq_true rfl⟩ (s_readMark (s := gN g) (w := 0) hT h5 w4 hx5 hp5 hs5.2 rfl (Nat.lt_succ_self _) rfl (by omega) (fun q5 => ?_) (fun q5 => ?_))
  rotate_left
  · rw [eT0] at q5
    refine z_if_eq_t zi_61_34 (by omega) (by omega) ?_
    refine z_iconst zi_61_43 ?_
    refine z_zreturn zi_61_44 rfl (by omega) (kf p5 t5 (by rw [if_neg q5]) hs5.2 f5 hp5)
  rw [eT0] at q5
  have hl5 := hby p5 (by omega)
  have hs6 := gsk_le (x := x) (p := p5 + 1) (by omega)
  rw [if_pos q5] at kt kf
  generalize hd6 : gsk x (p5 + 1) = p6 at hs6 kt kf ⊢
  have hx6 := zTP_up (v := (p6 : Int)) hx5
  have h6 := zTB_tape (v := (p6 : Int)) hT h5
  have f6 : zFp T t (zup t5 37 2 (p6 : Int)) := f5.tr zFp.up
  have hp6 : zup t5 37 2 (p6 : Int) 37 2 = (p6 : Int) := zup_s
  generalize zup t5 37 2 (p6 : Int) = t6 at hx6 h6 f6 hp6 ⊢
  have h7 := zTB_M h6 (s := gN g) (w := 0) (by omega) (gby x p5 - 48)
  have fr7 : zFr T t6 (zup t6 (T + 3) (2 * gN g + 0) (gby x p5 - 48)) := zFr.rf.up (by omega)
  have f7 := f6.tr (zFp.fr fr7)
  have hx7 := zTP_fp hT hx6 (zFp.fr fr7)
  have hp7 : zup t6 (T + 3) (2 * gN g + 0) (gby x p5 - 48) 37 2 = (p6 : Int) := by rw [zup_o (by omega)]; exact hp6
  generalize zup t6 (T + 3) (2 * gN g + 0) (gby x p5 - 48) = t7 at h7 f7 hx7 hp7 ⊢
  have w7 : gWF (gsM (gadd g (gkd x p2) (gby x p - 48) (gby x p1 - 48)) (fup2 (gM (gadd g (gkd x p2) (gby x p - 48) (gby x p1 - 48))) (gN g) 0 (gby x p5 - 48))) := by
    refine ⟨w4.1, w4.2.1, w4.2.2.1, w4.2.2.2.1, fun s w hs hw2 => ⟨(w4.t hs hw2).1, (w4.t hs hw2).2.1, ?_⟩, w4.2.2.2.2.2.1, w4.2.2.2.2.2.2.1, w4.2.2.2.2.2.2.2⟩
    have h9 := w4.t hs hw2
    show 0 ≤ fup2 (gM (gadd g (gkd x p2) (gby x p - 48) (gby x p1 - 48))) (gN g) 0 (gby x p5 - 48) s w ∧ fup2 (gM (gadd g (gkd x p2) (gby x p - 48) (gby x p1 - 48))) (gN g) 0 (gby x p5 - 48) s w < gT (gadd g (gkd x p2) (gby x p - 48) (gby x p1 - 48)) s w
    unfold fup2
    split
    · rename_i z
      rw [z.1, z.2, eT0]
      omega
    · exact ⟨h9.2.2.1, h9.2.2.2⟩
  have hg6 := gby_rng hx7 p6
  refine z_if_eq_f zi_61_34 (by omega) (by omega) ?_
  refine z_aload_n zi_61_35 rfl ?_
  refine z_aload_n zi_61_36 rfl ?_
  refine z_iload zi_61_37 rfl ?_
  refine z_iconst zi_61_38 ?_
  refine z_cv3i zi_61_39 rfl rfl rfl rfl ⟨rfl, Nat.le_of_ble_eq_true rfl, Nat.le_of_ble_eq_true rfl⟩ (s_readMark (s := gN g) (w := 1) hT h7 w7 hx7 hp7 hs6.2 rfl (Nat.lt_succ_self _) rfl (by omega) (fun q6 => ?_) (fun q6 => ?_))
  rotate_left
  · have q6' : ¬ (0 ≤ gby x p6 - 48 ∧ gby x p6 - 48 ≤ gT (gadd g (gkd x p2) (gby x p - 48) (gby x p1 - 48)) (gN g) 1 - 1) := q6
    rw [eT1] at q6'
    refine z_if_eq_t zi_61_40 (by omega) (by omega) ?_
    refine z_iconst zi_61_43 ?_
    refine z_zreturn zi_61_44 rfl (by omega) (kf p6 t7 (by rw [if_neg q6']) hs6.2 f7 hp7)
  have q6' : 0 ≤ gby x p6 - 48 ∧ gby x p6 - 48 ≤ gT (gadd g (gkd x p2) (gby x p - 48) (gby x p1 - 48)) (gN g) 1 - 1 := q6
  rw [eT1] at q6'
  have hl6 := hby p6 (by omega)
  have hs8 := gsk_le (x := x) (p := p6 + 1) (by omega)
  rw [if_pos q6'] at kt
  refine z_if_eq_f zi_61_40 (by omega) (by omega) ?_
  refine z_iconst zi_61_41 ?_
  refine z_goto zi_61_42 ?_
  have h8 := zTB_M (zTB_tape (v := ((gsk x (p6 + 1) : Nat) : Int)) hT h7) (s := gN g) (w := 1) (by omega) (gby x p6 - 48)
  have fr8 : zFr T (zup t7 37 2 ((gsk x (p6 + 1) : Nat) : Int)) (zup (zup t7 37 2 ((gsk x (p6 + 1) : Nat) : Int)) (T + 3) (2 * gN g + 1) (gby x p6 - 48)) := zFr.rf.up (by omega)
  refine z_zreturn zi_61_44 rfl (by omega) (kt _ _ _ rfl hs8.2 ?_ ((f7.tr zFp.up).tr (zFp.fr fr8)) (by rw [zup_o (by omega), zup_s]))
  have h9 := zTB_Mx (g := gadd g (gkd x p2) (gby x p - 48) (gby x p1 - 48)) (m' := fup2 (fup2 (gM g) (gN g) 0 (gby x p5 - 48)) (gN g) 1 (gby x p6 - 48)) h8 (fun s w hs hw2 => by
    show fup2 (fup2 (gM g) (gN g) 0 (gby x p5 - 48)) (gN g) 1 (gby x p6 - 48) s w = fup2 (fup2 (fup2 (fup2 (gM g) (gN g) 0 0) (gN g) 1 0) (gN g) 0 (gby x p5 - 48)) (gN g) 1 (gby x p6 - 48) s w
    unfold fup2
    by_cases z : s = gN g
    · rcases (by omega : w = 0 ∨ w = 1) with rfl | rfl
      · rw [if_neg (fun y => absurd y.2 (by omega)), if_pos ⟨z, rfl⟩, if_neg (fun y => absurd y.2 (by omega)), if_pos ⟨z, rfl⟩]
      · rw [if_pos ⟨z, rfl⟩, if_pos ⟨z, rfl⟩]
    · rw [if_neg (fun y => z y.1), if_neg (fun y => z y.1), if_neg (fun y => z y.1), if_neg (fun y => z y.1), if_neg (fun y => z y.1), if_neg (fun y => z y.1)])
  exact h9
theorem gads_N : ∀ (l : List gSt) (g : zG), gN (gads g l) = gN g + l.length
  | [], g => rfl
  | y :: l, g => by
    show gN (gads (gad5 g y) l) = _
    rw [gads_N l (gad5 g y)]
    show gN g + 1 + l.length = gN g + (l.length + 1)
    omega
theorem s_readTo (hT : zTa T) (h : zTB T t g) (hw : gWF g) (hN : gN g = 0) (hx : zTP t x)
    (kt : ∀ l t', gRx x = .inr l → zTB T t' (gads g l) → zFp T t t' → K (l.length : Nat) t') (kf : ∀ q t', gRx x = .inl q → q ≤ x.1 → zFp T t t' → K (-20 - (q : Int)) t') : ZX (d + 5) 59 0 [(0, .ref 37), (1, .ref T)] [] t (zKi K) := by
  have h80 := hx.2.2.1
  have hT37 := zTa_lt hT
  have bad : ∀ (i q : Nat) t', q ≤ x.1 → zFp T t t' → t' 37 2 = (q : Int) → gRx x = .inl q → ZX (d + 5) 59 35 [(3, .int (zi i)), (2, .int (zi 0)), (0, .ref 37), (1, .ref T)] [] t' (zKi K) := by
    intro i q t' hq f' hp' e
    refine z_iload_n zi_59_35 rfl ?_
    refine z_if_eq_t zi_59_36 (by omega) (by omega) ?_
    refine z_bipush zi_59_45 (by decide) ?_
    refine z_aload_n zi_59_46 rfl ?_
    refine z_getfield zi_59_47 rfl ?_
    refine z_top hp' ?_
    refine z_isub zi_59_48 ?_
    refine z_ireturn zi_59_49 rfl (kf q t' e hq f')
  have bad2 : ∀ (i q : Nat) t', i ≤ 8 → q ≤ x.1 → zFp T t t' → t' 37 2 = (q : Int) → gRx x = .inl q → ZX (d + 5) 59 11 [(3, .int (zi i)), (2, .int (zi 0)), (0, .ref 37), (1, .ref T)] [] t' (zKi K) := by
    intro i q t' hi hq f' hp' e
    refine z_iload_n zi_59_11 rfl ?_
    refine z_bipush zi_59_12 (by decide) ?_
    refine z_icmp_ge zi_59_13 (by omega) (fun c => ?_) (fun c => ?_)
    · exact bad i q t' hq f' hp' e
    · refine z_iload_n zi_59_14 rfl ?_
      refine z_if_eq_t zi_59_15 (by omega) (by omega) ?_
      exact bad i q t' hq f' hp' e
  -- n more may follow, i lie on the table
  have loop : ∀ (n i p : Nat) (g' : zG) (t' : zMI), i + n = 8 → gN g' = i → 0 < i → gWF g' → zTB T t' g' → zFp T t t' → p ≤ x.1 → t' 37 2 = (p : Int) →
      (∀ q, gRr x n p = .inl q → gRx x = .inl q) → (∀ l, gRr x n p = .inr l → ∃ l', gRx x = .inr l' ∧ gads g l' = gads g' l ∧ l'.length = i + l.length) → ZX (d + 5) 59 11 [(3, .int (zi i)), (2, .int (zi 1)), (0, .ref 37), (1, .ref T)] [] t' (zKi K) := by
    have good : ∀ (i p : Nat) (g' : zG) (t' : zMI), i ≤ 8 → gN g' = i → zTB T t' g' → zFp T t t' → p ≤ x.1 → t' 37 2 = (p : Int) → (¬ p = x.1 → gRx x = .inl p) → (p = x.1 → ∃ l', gRx x = .inr l' ∧ gads g l' = g' ∧ l'.length = i) → ZX (d + 5) 59 35 [(3, .int (zi i)), (2, .int (zi 1)), (0, .ref 37), (1, .ref T)] [] t' (zKi K) := by
      intro i p g' t' hi hg h' f' hp hp' k1 k2
      have hx' := zTP_fp hT hx f'
      refine z_iload_n zi_59_35 rfl ?_
      refine z_if_eq_f zi_59_36 (by omega) (by omega) ?_
      refine z_aload_n zi_59_37 rfl ?_
      refine z_getfield zi_59_38 rfl ?_
      refine z_top hp' ?_
      refine z_aload_n zi_59_39 rfl ?_
      refine z_getfield zi_59_40 rfl ?_
      refine z_top hx'.1 ?_
      refine z_icmp_ne zi_59_41 (by omega) (fun c => ?_) (fun c => ?_)
      · refine z_bipush zi_59_45 (by decide) ?_
        refine z_aload_n zi_59_46 rfl ?_
        refine z_getfield zi_59_47 rfl ?_
        refine z_top hp' ?_
        refine z_isub zi_59_48 ?_
        refine z_ireturn zi_59_49 rfl (kf p t' (k1 (by omega)) hp f')
      · obtain ⟨l', e1, e2, e3⟩ := k2 (by omega)
        refine z_aload_n zi_59_42 rfl ?_
        refine z_cv0i zi_59_43  (zt_c hT) ⟨rfl, Nat.le_of_ble_eq_true rfl, Nat.le_of_ble_eq_true rfl⟩ (s_stoneCount hT h' ?_)
        refine z_goto zi_59_44 ?_
        rw [hg, ← e3]
        refine z_ireturn zi_59_49 rfl (kt l' t' e1 (by rw [e2]; exact h') f')
    intro n
    induction n with
    | zero =>
      intro i p g' t' hi hg hi0 hw' h' f' hp hp' k1 k2
      refine z_iload_n zi_59_11 rfl ?_
      refine z_bipush zi_59_12 (by decide) ?_
      refine z_icmp_ge_t zi_59_13 (by omega) (by omega) ?_
      refine good i p g' t' (by omega) hg h' f' hp hp' (fun z => k1 p ?_) (fun z => ?_)
      · unfold gRr; rw [if_neg z]
      · obtain ⟨l', e1, e2, e3⟩ := k2 [] (by unfold gRr; rw [if_pos z])
        exact ⟨l', e1, e2, e3⟩
    | succ n ih =>
      intro i p g' t' hi hg hi0 hw' h' f' hp hp' k1 k2
      have hx' := zTP_fp hT hx f'
      refine z_iload_n zi_59_11 rfl ?_
      refine z_bipush zi_59_12 (by decide) ?_
      refine z_icmp_ge_f zi_59_13 (by omega) (by omega) ?_
      refine z_iload_n zi_59_14 rfl ?_
      refine z_if_eq_f zi_59_15 (by omega) (by omega) ?_
      refine z_aload_n zi_59_16 rfl ?_
      refine z_getfield zi_59_17 rfl ?_
      refine z_top hp' ?_
      refine z_aload_n zi_59_18 rfl ?_
      refine z_getfield zi_59_19 rfl ?_
      refine z_top hx'.1 ?_
      refine z_icmp_ge zi_59_20 (by omega) (fun c => ?_) (fun c => ?_)
      · refine good i p g' t' (by omega) hg h' f' hp hp' (fun z => by omega) (fun z => ?_)
        obtain ⟨l', e1, e2, e3⟩ := k2 [] (by unfold gRr; rw [if_pos z])
        exact ⟨l', e1, e2, e3⟩
      · have hpl : p < x.1 := by omega
        refine z_aload_n zi_59_21 rfl ?_
        refine z_bipush zi_59_22 (by decide) ?_
        refine z_cv1i zi_59_23 rfl rfl ⟨rfl, Nat.le_of_ble_eq_true rfl, Nat.le_of_ble_eq_true rfl⟩ (s_readSign hx' hp' hp (by omega) (fun q => ?_) (fun q => ?_))
        · have hsk := gsk_le (x := x) (p := p + 1) (by omega)
          refine z_if_eq_f zi_59_24 (by omega) (by omega) ?_
          refine z_aload_n zi_59_25 rfl ?_
          refine z_aload_n zi_59_26 rfl ?_
          refine z_cv1i zi_59_27 rfl rfl ⟨rfl, Nat.le_of_ble_eq_true rfl, Nat.le_of_ble_eq_true rfl⟩ (s_readStone (p := gsk x (p + 1)) hT (zTB_tape hT h') hw' (by omega) (zTP_up hx') zup_s hsk.2 (fun y p' t2 e hp2 h2 f2 hpl2 => ?_) (fun q2 t2 e hp2 f2 hpl2 => ?_))
          · have hy := gRs_ok e
            refine z_if_eq_f zi_59_28 (by omega) (by omega) ?_
            refine z_iconst zi_59_29 ?_
            refine z_goto zi_59_30 ?_
            refine z_istore_n zi_59_32 rfl ?_
            refine z_iinc zi_59_33 rfl rfl ?_
            refine z_goto zi_59_34 ?_
            refine z_loc (lv' := [(3, .int (zi ((i + 1 : Nat) : Int))), (2, .int (zi 1)), (0, .ref 37), (1, .ref T)]) rfl ?_
            refine ih (i + 1) p' (gad5 g' y) t2 (by omega) (by show gN g' + 1 = _; omega) (by omega) (gad5_wf hw' (by omega) hy) h2 ((f'.tr zFp.up).tr f2) hp2 hpl2 (fun q3 e3 => k1 q3 ?_) (fun l e3 => ?_)
            · unfold gRr
              rw [if_neg (by omega), if_pos q, e]
              dsimp only
              rw [e3]
            · obtain ⟨l', g1, g2, g3⟩ := k2 (y :: l) (by
                unfold gRr
                rw [if_neg (by omega), if_pos q, e]
                dsimp only
                rw [e3])
              refine ⟨l', g1, g2, ?_⟩
              rw [g3]
              show i + (l.length + 1) = i + 1 + l.length
              omega
          · refine z_if_eq_t zi_59_28 (by omega) (by omega) ?_
            refine z_iconst zi_59_31 ?_
            refine z_istore_n zi_59_32 rfl ?_
            refine z_iinc zi_59_33 rfl rfl ?_
            refine z_goto zi_59_34 ?_
            refine z_loc (lv' := [(3, .int (zi ((i + 1 : Nat) : Int))), (2, .int (zi 0)), (0, .ref 37), (1, .ref T)]) rfl ?_
            refine bad2 (i + 1) q2 t2 (by omega) hp2 ((f'.tr zFp.up).tr f2) hpl2 (k1 q2 ?_)
            unfold gRr
            rw [if_neg (by omega), if_pos q, e]
        · refine z_if_eq_t zi_59_24 (by omega) (by omega) ?_
          refine z_iconst zi_59_31 ?_
          refine z_istore_n zi_59_32 rfl ?_
          refine z_iinc zi_59_33 rfl rfl ?_
          refine z_goto zi_59_34 ?_
          refine z_loc (lv' := [(3, .int (zi ((i + 1 : Nat) : Int))), (2, .int (zi 0)), (0, .ref 37), (1, .ref T)]) rfl ?_
          refine bad2 (i + 1) p t' (by omega) hp f' hp' (k1 p ?_)
          unfold gRr
          rw [if_neg (by omega), if_neg q]
  have hs0 := gsk_le (x := x) (p := 0) (by omega)
  have hx1 : zTP (zup t 37 2 (-1)) x := zTP_up hx
  refine z_aload_n zi_59_0 rfl ?_
  refine z_iconst zi_59_1 ?_
  refine z_putfield zi_59_2 rfl (Or.inl rfl) ?_
  refine z_aload_n zi_59_3 rfl ?_
  refine z_cv0v zi_59_4  rfl ⟨rfl, Nat.le_of_ble_eq_true rfl, Nat.le_of_ble_eq_true rfl⟩ (s_stepOn (p := 0) hx1 zup_s (by omega) ?_)
  rw [zup2]
  refine z_aload_n zi_59_5 rfl ?_
  refine z_aload_n zi_59_6 rfl ?_
  refine z_cv1i zi_59_7 rfl rfl ⟨rfl, Nat.le_of_ble_eq_true rfl, Nat.le_of_ble_eq_true rfl⟩ (s_readStone (p := gsk x 0) hT (zTB_tape hT h) hw (by omega) (zTP_up hx) zup_s hs0.2 (fun y p' t2 e hp2 h2 f2 hpl2 => ?_) (fun q2 t2 e hp2 f2 hpl2 => ?_))
  · have hy := gRs_ok e
    refine z_istore_n zi_59_8 rfl ?_
    refine z_iconst zi_59_9 ?_
    refine z_istore_n zi_59_10 rfl ?_
    refine z_loc (lv' := [(3, .int (zi ((1 : Nat) : Int))), (2, .int (zi 1)), (0, .ref 37), (1, .ref T)]) rfl ?_
    refine loop 7 1 p' (gad5 g y) t2 (by omega) (by show gN g + 1 = _; omega) (by omega) (gad5_wf hw (by omega) hy) h2 (zFp.up.tr f2) hp2 hpl2 (fun q3 e3 => ?_) (fun l e3 => ?_)
    · unfold gRx
      rw [e]
      dsimp only
      rw [e3]
    · refine ⟨y :: l, ?_, rfl, ?_⟩
      · unfold gRx
        rw [e]
        dsimp only
        rw [e3]
      · show l.length + 1 = 1 + l.length
        omega
  · refine z_istore_n zi_59_8 rfl ?_
    refine z_iconst zi_59_9 ?_
    refine z_istore_n zi_59_10 rfl ?_
    refine z_loc (lv' := [(3, .int (zi ((1 : Nat) : Int))), (2, .int (zi 0)), (0, .ref 37), (1, .ref T)]) rfl ?_
    refine bad2 1 q2 t2 (by omega) hp2 (zFp.up.tr f2) hpl2 ?_
    unfold gRx
    rw [e]
end
end
