section
-- ===== PART A: goes FIRST, ahead of the names: the tables' words, and 'selects' of the private methods out of them =====
/-- a private method of a class that the tables say can be made, by its rows of tables_1 -/
def lw_okq (q : MethodName × Nat) : Prop := (q.1.cls ≠ "java/lang/invoke/MethodHandle" ∧ q.1.cls ≠ "java/lang/invoke/VarHandle") ∧ Cond.instantiable q.1.cls q.2 ∈ tables_1 ∧ Cond.privateMethod q.1 ∈ tables_1 ∧ Cond.instanceMethod q.1 ∈ tables_1
theorem lw_p0 : lw_okq (⟨"PolarTypes$Types", "addType", "(IIII)I"⟩, 14) := ⟨⟨by decide +kernel, by decide +kernel⟩, List.mem_of_getElem? (i := 73) (by decide +kernel), List.mem_of_getElem? (i := 90) (by decide +kernel), List.mem_of_getElem? (i := 91) (by decide +kernel)⟩
theorem lw_p1 : lw_okq (⟨"PolarTypes$Typing", "typed", "(III)I"⟩, 15) := ⟨⟨by decide +kernel, by decide +kernel⟩, List.mem_of_getElem? (i := 67) (by decide +kernel), List.mem_of_getElem? (i := 459) (by decide +kernel), List.mem_of_getElem? (i := 460) (by decide +kernel)⟩
theorem lw_p2 : lw_okq (⟨"PolarTypes$Typing", "typedName", "(II)I"⟩, 15) := ⟨⟨by decide +kernel, by decide +kernel⟩, List.mem_of_getElem? (i := 67) (by decide +kernel), List.mem_of_getElem? (i := 464) (by decide +kernel), List.mem_of_getElem? (i := 465) (by decide +kernel)⟩
theorem lw_p3 : lw_okq (⟨"PolarTypes$Tree", "bindsIn", "(II)Z"⟩, 6) := ⟨⟨by decide +kernel, by decide +kernel⟩, List.mem_of_getElem? (i := 22) (by decide +kernel), List.mem_of_getElem? (i := 473) (by decide +kernel), List.mem_of_getElem? (i := 474) (by decide +kernel)⟩
theorem lw_p4 : lw_okq (⟨"PolarTypes$Typing", "startCopying", "(II)V"⟩, 15) := ⟨⟨by decide +kernel, by decide +kernel⟩, List.mem_of_getElem? (i := 67) (by decide +kernel), List.mem_of_getElem? (i := 480) (by decide +kernel), List.mem_of_getElem? (i := 481) (by decide +kernel)⟩
theorem lw_p5 : lw_okq (⟨"PolarTypes$Typing", "copied", "(III)I"⟩, 15) := ⟨⟨by decide +kernel, by decide +kernel⟩, List.mem_of_getElem? (i := 67) (by decide +kernel), List.mem_of_getElem? (i := 484) (by decide +kernel), List.mem_of_getElem? (i := 485) (by decide +kernel)⟩
theorem lw_p6 : lw_okq (⟨"PolarTypes$Types", "emptyBounds", "(I)V"⟩, 14) := ⟨⟨by decide +kernel, by decide +kernel⟩, List.mem_of_getElem? (i := 73) (by decide +kernel), List.mem_of_getElem? (i := 546) (by decide +kernel), List.mem_of_getElem? (i := 547) (by decide +kernel)⟩
theorem lw_p7 : lw_okq (⟨"PolarTypes$Typing", "typedFunction", "(III)I"⟩, 15) := ⟨⟨by decide +kernel, by decide +kernel⟩, List.mem_of_getElem? (i := 67) (by decide +kernel), List.mem_of_getElem? (i := 559) (by decide +kernel), List.mem_of_getElem? (i := 560) (by decide +kernel)⟩
theorem lw_p8 : lw_okq (⟨"PolarTypes$Typing", "gives", "(III)V"⟩, 15) := ⟨⟨by decide +kernel, by decide +kernel⟩, List.mem_of_getElem? (i := 67) (by decide +kernel), List.mem_of_getElem? (i := 563) (by decide +kernel), List.mem_of_getElem? (i := 564) (by decide +kernel)⟩
theorem lw_p9 : lw_okq (⟨"PolarTypes$Typing", "typedApply", "(III)I"⟩, 15) := ⟨⟨by decide +kernel, by decide +kernel⟩, List.mem_of_getElem? (i := 67) (by decide +kernel), List.mem_of_getElem? (i := 568) (by decide +kernel), List.mem_of_getElem? (i := 569) (by decide +kernel)⟩
theorem lw_p10 : lw_okq (⟨"PolarTypes$Typing", "under", "(III)I"⟩, 15) := ⟨⟨by decide +kernel, by decide +kernel⟩, List.mem_of_getElem? (i := 67) (by decide +kernel), List.mem_of_getElem? (i := 572) (by decide +kernel), List.mem_of_getElem? (i := 573) (by decide +kernel)⟩
theorem lw_p11 : lw_okq (⟨"PolarTypes$Typing", "whatIsDue", "(II)I"⟩, 15) := ⟨⟨by decide +kernel, by decide +kernel⟩, List.mem_of_getElem? (i := 67) (by decide +kernel), List.mem_of_getElem? (i := 581) (by decide +kernel), List.mem_of_getElem? (i := 582) (by decide +kernel)⟩
theorem lw_p12 : lw_okq (⟨"PolarTypes$Typing", "typedRecord", "(III)I"⟩, 15) := ⟨⟨by decide +kernel, by decide +kernel⟩, List.mem_of_getElem? (i := 67) (by decide +kernel), List.mem_of_getElem? (i := 592) (by decide +kernel), List.mem_of_getElem? (i := 593) (by decide +kernel)⟩
theorem lw_p13 : lw_okq (⟨"PolarTypes$Typing", "typedField", "(III)I"⟩, 15) := ⟨⟨by decide +kernel, by decide +kernel⟩, List.mem_of_getElem? (i := 67) (by decide +kernel), List.mem_of_getElem? (i := 598) (by decide +kernel), List.mem_of_getElem? (i := 599) (by decide +kernel)⟩
theorem lw_p14 : lw_okq (⟨"PolarTypes$Typing", "typedLet", "(III)I"⟩, 15) := ⟨⟨by decide +kernel, by decide +kernel⟩, List.mem_of_getElem? (i := 67) (by decide +kernel), List.mem_of_getElem? (i := 603) (by decide +kernel), List.mem_of_getElem? (i := 604) (by decide +kernel)⟩
theorem lw_p15 : lw_okq (⟨"PolarTypes$Typing", "typedRec", "(III)I"⟩, 15) := ⟨⟨by decide +kernel, by decide +kernel⟩, List.mem_of_getElem? (i := 67) (by decide +kernel), List.mem_of_getElem? (i := 607) (by decide +kernel), List.mem_of_getElem? (i := 608) (by decide +kernel)⟩
def lw_privs_1 : List (MethodName × Nat) := [(⟨"PolarTypes$Types", "addType", "(IIII)I"⟩, 14), (⟨"PolarTypes$Typing", "typed", "(III)I"⟩, 15), (⟨"PolarTypes$Typing", "typedName", "(II)I"⟩, 15), (⟨"PolarTypes$Tree", "bindsIn", "(II)Z"⟩, 6), (⟨"PolarTypes$Typing", "startCopying", "(II)V"⟩, 15), (⟨"PolarTypes$Typing", "copied", "(III)I"⟩, 15), (⟨"PolarTypes$Types", "emptyBounds", "(I)V"⟩, 14), (⟨"PolarTypes$Typing", "typedFunction", "(III)I"⟩, 15), (⟨"PolarTypes$Typing", "gives", "(III)V"⟩, 15), (⟨"PolarTypes$Typing", "typedApply", "(III)I"⟩, 15), (⟨"PolarTypes$Typing", "under", "(III)I"⟩, 15), (⟨"PolarTypes$Typing", "whatIsDue", "(II)I"⟩, 15), (⟨"PolarTypes$Typing", "typedRecord", "(III)I"⟩, 15), (⟨"PolarTypes$Typing", "typedField", "(III)I"⟩, 15), (⟨"PolarTypes$Typing", "typedLet", "(III)I"⟩, 15), (⟨"PolarTypes$Typing", "typedRec", "(III)I"⟩, 15)]
theorem lw_r1 : ∀ q ∈ lw_privs_1, lw_okq q := List.forall_mem_cons.mpr ⟨lw_p0, List.forall_mem_cons.mpr ⟨lw_p1, List.forall_mem_cons.mpr ⟨lw_p2, List.forall_mem_cons.mpr ⟨lw_p3, List.forall_mem_cons.mpr ⟨lw_p4, List.forall_mem_cons.mpr ⟨lw_p5, List.forall_mem_cons.mpr ⟨lw_p6, List.forall_mem_cons.mpr ⟨lw_p7, List.forall_mem_cons.mpr ⟨lw_p8, List.forall_mem_cons.mpr ⟨lw_p9, List.forall_mem_cons.mpr ⟨lw_p10, List.forall_mem_cons.mpr ⟨lw_p11, List.forall_mem_cons.mpr ⟨lw_p12, List.forall_mem_cons.mpr ⟨lw_p13, List.forall_mem_cons.mpr ⟨lw_p14, List.forall_mem_cons.mpr ⟨lw_p15, fun _ h => absurd h List.not_mem_nil⟩⟩⟩⟩⟩⟩⟩⟩⟩⟩⟩⟩⟩⟩⟩⟩
theorem lw_p16 : lw_okq (⟨"PolarTypes$Typing", "typedPick", "(III)I"⟩, 15) := ⟨⟨by decide +kernel, by decide +kernel⟩, List.mem_of_getElem? (i := 67) (by decide +kernel), List.mem_of_getElem? (i := 611) (by decide +kernel), List.mem_of_getElem? (i := 612) (by decide +kernel)⟩
theorem lw_p17 : lw_okq (⟨"PolarTypes$Typing", "typedWholes", "(III)I"⟩, 15) := ⟨⟨by decide +kernel, by decide +kernel⟩, List.mem_of_getElem? (i := 67) (by decide +kernel), List.mem_of_getElem? (i := 615) (by decide +kernel), List.mem_of_getElem? (i := 616) (by decide +kernel)⟩
theorem lw_p18 : lw_okq (⟨"PolarTypes$Teller", "begin", "(II)V"⟩, 6) := ⟨⟨by decide +kernel, by decide +kernel⟩, List.mem_of_getElem? (i := 157) (by decide +kernel), List.mem_of_getElem? (i := 627) (by decide +kernel), List.mem_of_getElem? (i := 628) (by decide +kernel)⟩
theorem lw_p19 : lw_okq (⟨"PolarTypes$Teller", "putNumber", "(I)V"⟩, 6) := ⟨⟨by decide +kernel, by decide +kernel⟩, List.mem_of_getElem? (i := 157) (by decide +kernel), List.mem_of_getElem? (i := 639) (by decide +kernel), List.mem_of_getElem? (i := 640) (by decide +kernel)⟩
theorem lw_p20 : lw_okq (⟨"PolarTypes$Teller", "close", "()V"⟩, 6) := ⟨⟨by decide +kernel, by decide +kernel⟩, List.mem_of_getElem? (i := 157) (by decide +kernel), List.mem_of_getElem? (i := 658) (by decide +kernel), List.mem_of_getElem? (i := 659) (by decide +kernel)⟩
theorem lw_p21 : lw_okq (⟨"PolarTypes$Teller", "goOn", "()V"⟩, 6) := ⟨⟨by decide +kernel, by decide +kernel⟩, List.mem_of_getElem? (i := 157) (by decide +kernel), List.mem_of_getElem? (i := 663) (by decide +kernel), List.mem_of_getElem? (i := 664) (by decide +kernel)⟩
theorem lw_p22 : lw_okq (⟨"PolarTypes$Working", "startAnew", "(I)V"⟩, 14) := ⟨⟨by decide +kernel, by decide +kernel⟩, List.mem_of_getElem? (i := 261) (by decide +kernel), List.mem_of_getElem? (i := 721) (by decide +kernel), List.mem_of_getElem? (i := 722) (by decide +kernel)⟩
theorem lw_p23 : lw_okq (⟨"PolarTypes$Working", "run", "(III)I"⟩, 14) := ⟨⟨by decide +kernel, by decide +kernel⟩, List.mem_of_getElem? (i := 261) (by decide +kernel), List.mem_of_getElem? (i := 727) (by decide +kernel), List.mem_of_getElem? (i := 728) (by decide +kernel)⟩
theorem lw_p24 : lw_okq (⟨"PolarTypes$Working", "addValue", "(III)I"⟩, 14) := ⟨⟨by decide +kernel, by decide +kernel⟩, List.mem_of_getElem? (i := 261) (by decide +kernel), List.mem_of_getElem? (i := 733) (by decide +kernel), List.mem_of_getElem? (i := 734) (by decide +kernel)⟩
theorem lw_p25 : lw_okq (⟨"PolarTypes$Working", "runName", "(III)I"⟩, 14) := ⟨⟨by decide +kernel, by decide +kernel⟩, List.mem_of_getElem? (i := 261) (by decide +kernel), List.mem_of_getElem? (i := 738) (by decide +kernel), List.mem_of_getElem? (i := 739) (by decide +kernel)⟩
theorem lw_p26 : lw_okq (⟨"PolarTypes$Working", "seenBy", "(II)I"⟩, 14) := ⟨⟨by decide +kernel, by decide +kernel⟩, List.mem_of_getElem? (i := 261) (by decide +kernel), List.mem_of_getElem? (i := 742) (by decide +kernel), List.mem_of_getElem? (i := 743) (by decide +kernel)⟩
theorem lw_p27 : lw_okq (⟨"PolarTypes$Working", "stuckAt", "(I)I"⟩, 14) := ⟨⟨by decide +kernel, by decide +kernel⟩, List.mem_of_getElem? (i := 261) (by decide +kernel), List.mem_of_getElem? (i := 747) (by decide +kernel), List.mem_of_getElem? (i := 748) (by decide +kernel)⟩
theorem lw_p28 : lw_okq (⟨"PolarTypes$Working", "runApply", "(III)I"⟩, 14) := ⟨⟨by decide +kernel, by decide +kernel⟩, List.mem_of_getElem? (i := 261) (by decide +kernel), List.mem_of_getElem? (i := 752) (by decide +kernel), List.mem_of_getElem? (i := 753) (by decide +kernel)⟩
theorem lw_p29 : lw_okq (⟨"PolarTypes$Working", "addSight", "(IIII)I"⟩, 14) := ⟨⟨by decide +kernel, by decide +kernel⟩, List.mem_of_getElem? (i := 261) (by decide +kernel), List.mem_of_getElem? (i := 756) (by decide +kernel), List.mem_of_getElem? (i := 757) (by decide +kernel)⟩
theorem lw_p30 : lw_okq (⟨"PolarTypes$Working", "runRecord", "(III)I"⟩, 14) := ⟨⟨by decide +kernel, by decide +kernel⟩, List.mem_of_getElem? (i := 261) (by decide +kernel), List.mem_of_getElem? (i := 760) (by decide +kernel), List.mem_of_getElem? (i := 761) (by decide +kernel)⟩
theorem lw_p31 : lw_okq (⟨"PolarTypes$Working", "runField", "(III)I"⟩, 14) := ⟨⟨by decide +kernel, by decide +kernel⟩, List.mem_of_getElem? (i := 261) (by decide +kernel), List.mem_of_getElem? (i := 766) (by decide +kernel), List.mem_of_getElem? (i := 767) (by decide +kernel)⟩
def lw_privs_2 : List (MethodName × Nat) := [(⟨"PolarTypes$Typing", "typedPick", "(III)I"⟩, 15), (⟨"PolarTypes$Typing", "typedWholes", "(III)I"⟩, 15), (⟨"PolarTypes$Teller", "begin", "(II)V"⟩, 6), (⟨"PolarTypes$Teller", "putNumber", "(I)V"⟩, 6), (⟨"PolarTypes$Teller", "close", "()V"⟩, 6), (⟨"PolarTypes$Teller", "goOn", "()V"⟩, 6), (⟨"PolarTypes$Working", "startAnew", "(I)V"⟩, 14), (⟨"PolarTypes$Working", "run", "(III)I"⟩, 14), (⟨"PolarTypes$Working", "addValue", "(III)I"⟩, 14), (⟨"PolarTypes$Working", "runName", "(III)I"⟩, 14), (⟨"PolarTypes$Working", "seenBy", "(II)I"⟩, 14), (⟨"PolarTypes$Working", "stuckAt", "(I)I"⟩, 14), (⟨"PolarTypes$Working", "runApply", "(III)I"⟩, 14), (⟨"PolarTypes$Working", "addSight", "(IIII)I"⟩, 14), (⟨"PolarTypes$Working", "runRecord", "(III)I"⟩, 14), (⟨"PolarTypes$Working", "runField", "(III)I"⟩, 14)]
theorem lw_r2 : ∀ q ∈ lw_privs_2, lw_okq q := List.forall_mem_cons.mpr ⟨lw_p16, List.forall_mem_cons.mpr ⟨lw_p17, List.forall_mem_cons.mpr ⟨lw_p18, List.forall_mem_cons.mpr ⟨lw_p19, List.forall_mem_cons.mpr ⟨lw_p20, List.forall_mem_cons.mpr ⟨lw_p21, List.forall_mem_cons.mpr ⟨lw_p22, List.forall_mem_cons.mpr ⟨lw_p23, List.forall_mem_cons.mpr ⟨lw_p24, List.forall_mem_cons.mpr ⟨lw_p25, List.forall_mem_cons.mpr ⟨lw_p26, List.forall_mem_cons.mpr ⟨lw_p27, List.forall_mem_cons.mpr ⟨lw_p28, List.forall_mem_cons.mpr ⟨lw_p29, List.forall_mem_cons.mpr ⟨lw_p30, List.forall_mem_cons.mpr ⟨lw_p31, fun _ h => absurd h List.not_mem_nil⟩⟩⟩⟩⟩⟩⟩⟩⟩⟩⟩⟩⟩⟩⟩⟩
theorem lw_p32 : lw_okq (⟨"PolarTypes$Working", "runLet", "(III)I"⟩, 14) := ⟨⟨by decide +kernel, by decide +kernel⟩, List.mem_of_getElem? (i := 261) (by decide +kernel), List.mem_of_getElem? (i := 771) (by decide +kernel), List.mem_of_getElem? (i := 772) (by decide +kernel)⟩
theorem lw_p33 : lw_okq (⟨"PolarTypes$Working", "runRec", "(III)I"⟩, 14) := ⟨⟨by decide +kernel, by decide +kernel⟩, List.mem_of_getElem? (i := 261) (by decide +kernel), List.mem_of_getElem? (i := 775) (by decide +kernel), List.mem_of_getElem? (i := 776) (by decide +kernel)⟩
theorem lw_p34 : lw_okq (⟨"PolarTypes$Working", "runPick", "(III)I"⟩, 14) := ⟨⟨by decide +kernel, by decide +kernel⟩, List.mem_of_getElem? (i := 261) (by decide +kernel), List.mem_of_getElem? (i := 779) (by decide +kernel), List.mem_of_getElem? (i := 780) (by decide +kernel)⟩
theorem lw_p35 : lw_okq (⟨"PolarTypes$Working", "runWholes", "(III)I"⟩, 14) := ⟨⟨by decide +kernel, by decide +kernel⟩, List.mem_of_getElem? (i := 261) (by decide +kernel), List.mem_of_getElem? (i := 783) (by decide +kernel), List.mem_of_getElem? (i := 784) (by decide +kernel)⟩
theorem lw_p36 : lw_okq (⟨"PolarTypes$Working", "putValue", "(II)V"⟩, 14) := ⟨⟨by decide +kernel, by decide +kernel⟩, List.mem_of_getElem? (i := 261) (by decide +kernel), List.mem_of_getElem? (i := 787) (by decide +kernel), List.mem_of_getElem? (i := 788) (by decide +kernel)⟩
theorem lw_p37 : lw_okq (⟨"PolarTypesModel", "isFree", "(I)Z"⟩, 68) := ⟨⟨by decide +kernel, by decide +kernel⟩, List.mem_of_getElem? (i := 830) (by decide +kernel), List.mem_of_getElem? (i := 1056) (by decide +kernel), List.mem_of_getElem? (i := 1057) (by decide +kernel)⟩
theorem lw_p38 : lw_okq (⟨"PolarTypesModel", "isNode", "(I)Z"⟩, 68) := ⟨⟨by decide +kernel, by decide +kernel⟩, List.mem_of_getElem? (i := 830) (by decide +kernel), List.mem_of_getElem? (i := 1060) (by decide +kernel), List.mem_of_getElem? (i := 1061) (by decide +kernel)⟩
theorem lw_p39 : lw_okq (⟨"PolarTypesModel", "isWithin", "(II)Z"⟩, 68) := ⟨⟨by decide +kernel, by decide +kernel⟩, List.mem_of_getElem? (i := 830) (by decide +kernel), List.mem_of_getElem? (i := 1068) (by decide +kernel), List.mem_of_getElem? (i := 1069) (by decide +kernel)⟩
theorem lw_p40 : lw_okq (⟨"PolarTypesModel", "placeOf", "(II)I"⟩, 68) := ⟨⟨by decide +kernel, by decide +kernel⟩, List.mem_of_getElem? (i := 830) (by decide +kernel), List.mem_of_getElem? (i := 1072) (by decide +kernel), List.mem_of_getElem? (i := 1073) (by decide +kernel)⟩
theorem lw_p41 : lw_okq (⟨"PolarTypesModel", "forgetTypes", "()V"⟩, 68) := ⟨⟨by decide +kernel, by decide +kernel⟩, List.mem_of_getElem? (i := 830) (by decide +kernel), List.mem_of_getElem? (i := 1076) (by decide +kernel), List.mem_of_getElem? (i := 1077) (by decide +kernel)⟩
theorem lw_p42 : lw_okq (⟨"PolarTypesModel", "typing", "(II)I"⟩, 68) := ⟨⟨by decide +kernel, by decide +kernel⟩, List.mem_of_getElem? (i := 830) (by decide +kernel), List.mem_of_getElem? (i := 1088) (by decide +kernel), List.mem_of_getElem? (i := 1089) (by decide +kernel)⟩
theorem lw_p43 : lw_okq (⟨"PolarTypesModel", "stops", "(II)V"⟩, 68) := ⟨⟨by decide +kernel, by decide +kernel⟩, List.mem_of_getElem? (i := 830) (by decide +kernel), List.mem_of_getElem? (i := 1092) (by decide +kernel), List.mem_of_getElem? (i := 1093) (by decide +kernel)⟩
theorem lw_p44 : lw_okq (⟨"PolarTypesModel", "types", "(II)I"⟩, 68) := ⟨⟨by decide +kernel, by decide +kernel⟩, List.mem_of_getElem? (i := 830) (by decide +kernel), List.mem_of_getElem? (i := 1096) (by decide +kernel), List.mem_of_getElem? (i := 1097) (by decide +kernel)⟩
theorem lw_p45 : lw_okq (⟨"PolarTypesModel", "typeOfName", "(II)I"⟩, 68) := ⟨⟨by decide +kernel, by decide +kernel⟩, List.mem_of_getElem? (i := 830) (by decide +kernel), List.mem_of_getElem? (i := 1100) (by decide +kernel), List.mem_of_getElem? (i := 1101) (by decide +kernel)⟩
theorem lw_p46 : lw_okq (⟨"PolarTypesModel", "binderOf", "(II)I"⟩, 68) := ⟨⟨by decide +kernel, by decide +kernel⟩, List.mem_of_getElem? (i := 830) (by decide +kernel), List.mem_of_getElem? (i := 1104) (by decide +kernel), List.mem_of_getElem? (i := 1105) (by decide +kernel)⟩
theorem lw_p47 : lw_okq (⟨"PolarTypesModel", "beginAnew", "(III)I"⟩, 68) := ⟨⟨by decide +kernel, by decide +kernel⟩, List.mem_of_getElem? (i := 830) (by decide +kernel), List.mem_of_getElem? (i := 1108) (by decide +kernel), List.mem_of_getElem? (i := 1109) (by decide +kernel)⟩
def lw_privs_3 : List (MethodName × Nat) := [(⟨"PolarTypes$Working", "runLet", "(III)I"⟩, 14), (⟨"PolarTypes$Working", "runRec", "(III)I"⟩, 14), (⟨"PolarTypes$Working", "runPick", "(III)I"⟩, 14), (⟨"PolarTypes$Working", "runWholes", "(III)I"⟩, 14), (⟨"PolarTypes$Working", "putValue", "(II)V"⟩, 14), (⟨"PolarTypesModel", "isFree", "(I)Z"⟩, 68), (⟨"PolarTypesModel", "isNode", "(I)Z"⟩, 68), (⟨"PolarTypesModel", "isWithin", "(II)Z"⟩, 68), (⟨"PolarTypesModel", "placeOf", "(II)I"⟩, 68), (⟨"PolarTypesModel", "forgetTypes", "()V"⟩, 68), (⟨"PolarTypesModel", "typing", "(II)I"⟩, 68), (⟨"PolarTypesModel", "stops", "(II)V"⟩, 68), (⟨"PolarTypesModel", "types", "(II)I"⟩, 68), (⟨"PolarTypesModel", "typeOfName", "(II)I"⟩, 68), (⟨"PolarTypesModel", "binderOf", "(II)I"⟩, 68), (⟨"PolarTypesModel", "beginAnew", "(III)I"⟩, 68)]
theorem lw_r3 : ∀ q ∈ lw_privs_3, lw_okq q := List.forall_mem_cons.mpr ⟨lw_p32, List.forall_mem_cons.mpr ⟨lw_p33, List.forall_mem_cons.mpr ⟨lw_p34, List.forall_mem_cons.mpr ⟨lw_p35, List.forall_mem_cons.mpr ⟨lw_p36, List.forall_mem_cons.mpr ⟨lw_p37, List.forall_mem_cons.mpr ⟨lw_p38, List.forall_mem_cons.mpr ⟨lw_p39, List.forall_mem_cons.mpr ⟨lw_p40, List.forall_mem_cons.mpr ⟨lw_p41, List.forall_mem_cons.mpr ⟨lw_p42, List.forall_mem_cons.mpr ⟨lw_p43, List.forall_mem_cons.mpr ⟨lw_p44, List.forall_mem_cons.mpr ⟨lw_p45, List.forall_mem_cons.mpr ⟨lw_p46, List.forall_mem_cons.mpr ⟨lw_p47, fun _ h => absurd h List.not_mem_nil⟩⟩⟩⟩⟩⟩⟩⟩⟩⟩⟩⟩⟩⟩⟩⟩
theorem lw_p48 : lw_okq (⟨"PolarTypesModel", "anew", "(III)I"⟩, 68) := ⟨⟨by decide +kernel, by decide +kernel⟩, List.mem_of_getElem? (i := 830) (by decide +kernel), List.mem_of_getElem? (i := 1112) (by decide +kernel), List.mem_of_getElem? (i := 1113) (by decide +kernel)⟩
theorem lw_p49 : lw_okq (⟨"PolarTypesModel", "anews", "(III)I"⟩, 68) := ⟨⟨by decide +kernel, by decide +kernel⟩, List.mem_of_getElem? (i := 830) (by decide +kernel), List.mem_of_getElem? (i := 1116) (by decide +kernel), List.mem_of_getElem? (i := 1117) (by decide +kernel)⟩
theorem lw_p50 : lw_okq (⟨"PolarTypesModel", "arrow", "(II)I"⟩, 68) := ⟨⟨by decide +kernel, by decide +kernel⟩, List.mem_of_getElem? (i := 830) (by decide +kernel), List.mem_of_getElem? (i := 1120) (by decide +kernel), List.mem_of_getElem? (i := 1121) (by decide +kernel)⟩
theorem lw_p51 : lw_okq (⟨"PolarTypesModel", "newType", "(II)I"⟩, 68) := ⟨⟨by decide +kernel, by decide +kernel⟩, List.mem_of_getElem? (i := 830) (by decide +kernel), List.mem_of_getElem? (i := 1124) (by decide +kernel), List.mem_of_getElem? (i := 1125) (by decide +kernel)⟩
theorem lw_p52 : lw_okq (⟨"PolarTypesModel", "ofParts", "(IIIIZ)I"⟩, 68) := ⟨⟨by decide +kernel, by decide +kernel⟩, List.mem_of_getElem? (i := 830) (by decide +kernel), List.mem_of_getElem? (i := 1128) (by decide +kernel), List.mem_of_getElem? (i := 1129) (by decide +kernel)⟩
theorem lw_p53 : lw_okq (⟨"PolarTypesModel", "lift", "(IIII)I"⟩, 68) := ⟨⟨by decide +kernel, by decide +kernel⟩, List.mem_of_getElem? (i := 830) (by decide +kernel), List.mem_of_getElem? (i := 1132) (by decide +kernel), List.mem_of_getElem? (i := 1133) (by decide +kernel)⟩
theorem lw_p54 : lw_okq (⟨"PolarTypesModel", "lifts", "(IIII)I"⟩, 68) := ⟨⟨by decide +kernel, by decide +kernel⟩, List.mem_of_getElem? (i := 830) (by decide +kernel), List.mem_of_getElem? (i := 1136) (by decide +kernel), List.mem_of_getElem? (i := 1137) (by decide +kernel)⟩
theorem lw_p55 : lw_okq (⟨"PolarTypesModel", "newVariable", "(I)I"⟩, 68) := ⟨⟨by decide +kernel, by decide +kernel⟩, List.mem_of_getElem? (i := 830) (by decide +kernel), List.mem_of_getElem? (i := 1140) (by decide +kernel), List.mem_of_getElem? (i := 1141) (by decide +kernel)⟩
theorem lw_p56 : lw_okq (⟨"PolarTypesModel", "bind", "(III)V"⟩, 68) := ⟨⟨by decide +kernel, by decide +kernel⟩, List.mem_of_getElem? (i := 830) (by decide +kernel), List.mem_of_getElem? (i := 1144) (by decide +kernel), List.mem_of_getElem? (i := 1145) (by decide +kernel)⟩
theorem lw_p57 : lw_okq (⟨"PolarTypesModel", "row", "()I"⟩, 68) := ⟨⟨by decide +kernel, by decide +kernel⟩, List.mem_of_getElem? (i := 830) (by decide +kernel), List.mem_of_getElem? (i := 1148) (by decide +kernel), List.mem_of_getElem? (i := 1149) (by decide +kernel)⟩
theorem lw_p58 : lw_okq (⟨"PolarTypesModel", "addTo", "(III)V"⟩, 68) := ⟨⟨by decide +kernel, by decide +kernel⟩, List.mem_of_getElem? (i := 830) (by decide +kernel), List.mem_of_getElem? (i := 1152) (by decide +kernel), List.mem_of_getElem? (i := 1153) (by decide +kernel)⟩
theorem lw_p59 : lw_okq (⟨"PolarTypesModel", "fresh", "(II)I"⟩, 68) := ⟨⟨by decide +kernel, by decide +kernel⟩, List.mem_of_getElem? (i := 830) (by decide +kernel), List.mem_of_getElem? (i := 1156) (by decide +kernel), List.mem_of_getElem? (i := 1157) (by decide +kernel)⟩
theorem lw_p60 : lw_okq (⟨"PolarTypesModel", "puts", "(III)V"⟩, 68) := ⟨⟨by decide +kernel, by decide +kernel⟩, List.mem_of_getElem? (i := 830) (by decide +kernel), List.mem_of_getElem? (i := 1160) (by decide +kernel), List.mem_of_getElem? (i := 1161) (by decide +kernel)⟩
theorem lw_p61 : lw_okq (⟨"PolarTypesModel", "under", "(II)V"⟩, 68) := ⟨⟨by decide +kernel, by decide +kernel⟩, List.mem_of_getElem? (i := 830) (by decide +kernel), List.mem_of_getElem? (i := 1164) (by decide +kernel), List.mem_of_getElem? (i := 1165) (by decide +kernel)⟩
theorem lw_p62 : lw_okq (⟨"PolarTypesModel", "wasAsked", "(II)Z"⟩, 68) := ⟨⟨by decide +kernel, by decide +kernel⟩, List.mem_of_getElem? (i := 830) (by decide +kernel), List.mem_of_getElem? (i := 1168) (by decide +kernel), List.mem_of_getElem? (i := 1169) (by decide +kernel)⟩
theorem lw_p63 : lw_okq (⟨"PolarTypesModel", "asks", "(II)V"⟩, 68) := ⟨⟨by decide +kernel, by decide +kernel⟩, List.mem_of_getElem? (i := 830) (by decide +kernel), List.mem_of_getElem? (i := 1172) (by decide +kernel), List.mem_of_getElem? (i := 1173) (by decide +kernel)⟩
def lw_privs_4 : List (MethodName × Nat) := [(⟨"PolarTypesModel", "anew", "(III)I"⟩, 68), (⟨"PolarTypesModel", "anews", "(III)I"⟩, 68), (⟨"PolarTypesModel", "arrow", "(II)I"⟩, 68), (⟨"PolarTypesModel", "newType", "(II)I"⟩, 68), (⟨"PolarTypesModel", "ofParts", "(IIIIZ)I"⟩, 68), (⟨"PolarTypesModel", "lift", "(IIII)I"⟩, 68), (⟨"PolarTypesModel", "lifts", "(IIII)I"⟩, 68), (⟨"PolarTypesModel", "newVariable", "(I)I"⟩, 68), (⟨"PolarTypesModel", "bind", "(III)V"⟩, 68), (⟨"PolarTypesModel", "row", "()I"⟩, 68), (⟨"PolarTypesModel", "addTo", "(III)V"⟩, 68), (⟨"PolarTypesModel", "fresh", "(II)I"⟩, 68), (⟨"PolarTypesModel", "puts", "(III)V"⟩, 68), (⟨"PolarTypesModel", "under", "(II)V"⟩, 68), (⟨"PolarTypesModel", "wasAsked", "(II)Z"⟩, 68), (⟨"PolarTypesModel", "asks", "(II)V"⟩, 68)]
theorem lw_r4 : ∀ q ∈ lw_privs_4, lw_okq q := List.forall_mem_cons.mpr ⟨lw_p48, List.forall_mem_cons.mpr ⟨lw_p49, List.forall_mem_cons.mpr ⟨lw_p50, List.forall_mem_cons.mpr ⟨lw_p51, List.forall_mem_cons.mpr ⟨lw_p52, List.forall_mem_cons.mpr ⟨lw_p53, List.forall_mem_cons.mpr ⟨lw_p54, List.forall_mem_cons.mpr ⟨lw_p55, List.forall_mem_cons.mpr ⟨lw_p56, List.forall_mem_cons.mpr ⟨lw_p57, List.forall_mem_cons.mpr ⟨lw_p58, List.forall_mem_cons.mpr ⟨lw_p59, List.forall_mem_cons.mpr ⟨lw_p60, List.forall_mem_cons.mpr ⟨lw_p61, List.forall_mem_cons.mpr ⟨lw_p62, List.forall_mem_cons.mpr ⟨lw_p63, fun _ h => absurd h List.not_mem_nil⟩⟩⟩⟩⟩⟩⟩⟩⟩⟩⟩⟩⟩⟩⟩⟩
theorem lw_p64 : lw_okq (⟨"PolarTypesModel", "labelAt", "(II)I"⟩, 68) := ⟨⟨by decide +kernel, by decide +kernel⟩, List.mem_of_getElem? (i := 830) (by decide +kernel), List.mem_of_getElem? (i := 1176) (by decide +kernel), List.mem_of_getElem? (i := 1177) (by decide +kernel)⟩
theorem lw_p65 : lw_okq (⟨"PolarTypesModel", "beginLift", "(III)I"⟩, 68) := ⟨⟨by decide +kernel, by decide +kernel⟩, List.mem_of_getElem? (i := 830) (by decide +kernel), List.mem_of_getElem? (i := 1180) (by decide +kernel), List.mem_of_getElem? (i := 1181) (by decide +kernel)⟩
theorem lw_p66 : lw_okq (⟨"PolarTypesModel", "typeOfRecord", "(II)I"⟩, 68) := ⟨⟨by decide +kernel, by decide +kernel⟩, List.mem_of_getElem? (i := 830) (by decide +kernel), List.mem_of_getElem? (i := 1184) (by decide +kernel), List.mem_of_getElem? (i := 1185) (by decide +kernel)⟩
theorem lw_p67 : lw_okq (⟨"PolarTypesModel", "toldAs", "(III)I"⟩, 68) := ⟨⟨by decide +kernel, by decide +kernel⟩, List.mem_of_getElem? (i := 830) (by decide +kernel), List.mem_of_getElem? (i := 1200) (by decide +kernel), List.mem_of_getElem? (i := 1201) (by decide +kernel)⟩
theorem lw_p68 : lw_okq (⟨"PolarTypesModel", "tell", "(II)V"⟩, 68) := ⟨⟨by decide +kernel, by decide +kernel⟩, List.mem_of_getElem? (i := 830) (by decide +kernel), List.mem_of_getElem? (i := 1204) (by decide +kernel), List.mem_of_getElem? (i := 1205) (by decide +kernel)⟩
theorem lw_p69 : lw_okq (⟨"PolarTypesModel", "out", "(I)V"⟩, 68) := ⟨⟨by decide +kernel, by decide +kernel⟩, List.mem_of_getElem? (i := 830) (by decide +kernel), List.mem_of_getElem? (i := 1208) (by decide +kernel), List.mem_of_getElem? (i := 1209) (by decide +kernel)⟩
theorem lw_p70 : lw_okq (⟨"PolarTypesModel", "tellVariable", "(II)V"⟩, 68) := ⟨⟨by decide +kernel, by decide +kernel⟩, List.mem_of_getElem? (i := 830) (by decide +kernel), List.mem_of_getElem? (i := 1212) (by decide +kernel), List.mem_of_getElem? (i := 1213) (by decide +kernel)⟩
theorem lw_p71 : lw_okq (⟨"PolarTypesModel", "outNumber", "(I)V"⟩, 68) := ⟨⟨by decide +kernel, by decide +kernel⟩, List.mem_of_getElem? (i := 830) (by decide +kernel), List.mem_of_getElem? (i := 1216) (by decide +kernel), List.mem_of_getElem? (i := 1217) (by decide +kernel)⟩
theorem lw_p72 : lw_okq (⟨"PolarTypesModel", "isVariable", "(I)Z"⟩, 68) := ⟨⟨by decide +kernel, by decide +kernel⟩, List.mem_of_getElem? (i := 830) (by decide +kernel), List.mem_of_getElem? (i := 1225) (by decide +kernel), List.mem_of_getElem? (i := 1226) (by decide +kernel)⟩
theorem lw_p73 : lw_okq (⟨"PolarTypesModel", "does", "(II)I"⟩, 68) := ⟨⟨by decide +kernel, by decide +kernel⟩, List.mem_of_getElem? (i := 830) (by decide +kernel), List.mem_of_getElem? (i := 1237) (by decide +kernel), List.mem_of_getElem? (i := 1238) (by decide +kernel)⟩
theorem lw_p74 : lw_okq (⟨"PolarTypesModel", "halts", "(II)I"⟩, 68) := ⟨⟨by decide +kernel, by decide +kernel⟩, List.mem_of_getElem? (i := 830) (by decide +kernel), List.mem_of_getElem? (i := 1241) (by decide +kernel), List.mem_of_getElem? (i := 1242) (by decide +kernel)⟩
theorem lw_p75 : lw_okq (⟨"PolarTypesModel", "doing", "(II)I"⟩, 68) := ⟨⟨by decide +kernel, by decide +kernel⟩, List.mem_of_getElem? (i := 830) (by decide +kernel), List.mem_of_getElem? (i := 1245) (by decide +kernel), List.mem_of_getElem? (i := 1246) (by decide +kernel)⟩
theorem lw_p76 : lw_okq (⟨"PolarTypesModel", "made", "(III)I"⟩, 68) := ⟨⟨by decide +kernel, by decide +kernel⟩, List.mem_of_getElem? (i := 830) (by decide +kernel), List.mem_of_getElem? (i := 1249) (by decide +kernel), List.mem_of_getElem? (i := 1250) (by decide +kernel)⟩
theorem lw_p77 : lw_okq (⟨"PolarTypesModel", "seen", "(II)I"⟩, 68) := ⟨⟨by decide +kernel, by decide +kernel⟩, List.mem_of_getElem? (i := 830) (by decide +kernel), List.mem_of_getElem? (i := 1253) (by decide +kernel), List.mem_of_getElem? (i := 1254) (by decide +kernel)⟩
theorem lw_p78 : lw_okq (⟨"PolarTypesModel", "env", "(IIII)I"⟩, 68) := ⟨⟨by decide +kernel, by decide +kernel⟩, List.mem_of_getElem? (i := 830) (by decide +kernel), List.mem_of_getElem? (i := 1257) (by decide +kernel), List.mem_of_getElem? (i := 1258) (by decide +kernel)⟩
theorem lw_p79 : lw_okq (⟨"PolarTypesModel", "tellValue", "(I)V"⟩, 68) := ⟨⟨by decide +kernel, by decide +kernel⟩, List.mem_of_getElem? (i := 830) (by decide +kernel), List.mem_of_getElem? (i := 1265) (by decide +kernel), List.mem_of_getElem? (i := 1266) (by decide +kernel)⟩
def lw_privs_5 : List (MethodName × Nat) := [(⟨"PolarTypesModel", "labelAt", "(II)I"⟩, 68), (⟨"PolarTypesModel", "beginLift", "(III)I"⟩, 68), (⟨"PolarTypesModel", "typeOfRecord", "(II)I"⟩, 68), (⟨"PolarTypesModel", "toldAs", "(III)I"⟩, 68), (⟨"PolarTypesModel", "tell", "(II)V"⟩, 68), (⟨"PolarTypesModel", "out", "(I)V"⟩, 68), (⟨"PolarTypesModel", "tellVariable", "(II)V"⟩, 68), (⟨"PolarTypesModel", "outNumber", "(I)V"⟩, 68), (⟨"PolarTypesModel", "isVariable", "(I)Z"⟩, 68), (⟨"PolarTypesModel", "does", "(II)I"⟩, 68), (⟨"PolarTypesModel", "halts", "(II)I"⟩, 68), (⟨"PolarTypesModel", "doing", "(II)I"⟩, 68), (⟨"PolarTypesModel", "made", "(III)I"⟩, 68), (⟨"PolarTypesModel", "seen", "(II)I"⟩, 68), (⟨"PolarTypesModel", "env", "(IIII)I"⟩, 68), (⟨"PolarTypesModel", "tellValue", "(I)V"⟩, 68)]
theorem lw_r5 : ∀ q ∈ lw_privs_5, lw_okq q := List.forall_mem_cons.mpr ⟨lw_p64, List.forall_mem_cons.mpr ⟨lw_p65, List.forall_mem_cons.mpr ⟨lw_p66, List.forall_mem_cons.mpr ⟨lw_p67, List.forall_mem_cons.mpr ⟨lw_p68, List.forall_mem_cons.mpr ⟨lw_p69, List.forall_mem_cons.mpr ⟨lw_p70, List.forall_mem_cons.mpr ⟨lw_p71, List.forall_mem_cons.mpr ⟨lw_p72, List.forall_mem_cons.mpr ⟨lw_p73, List.forall_mem_cons.mpr ⟨lw_p74, List.forall_mem_cons.mpr ⟨lw_p75, List.forall_mem_cons.mpr ⟨lw_p76, List.forall_mem_cons.mpr ⟨lw_p77, List.forall_mem_cons.mpr ⟨lw_p78, List.forall_mem_cons.mpr ⟨lw_p79, fun _ h => absurd h List.not_mem_nil⟩⟩⟩⟩⟩⟩⟩⟩⟩⟩⟩⟩⟩⟩⟩⟩
def lw_privs : List (MethodName × Nat) := lw_privs_1 ++ (lw_privs_2 ++ (lw_privs_3 ++ (lw_privs_4 ++ (lw_privs_5))))
def lw_tbl : List Cond := k2_sels lw_privs ++ tables_1
theorem lw_privs_ok : ∀ q ∈ lw_privs, lw_okq q := by
  show ∀ q ∈ lw_privs_1 ++ (lw_privs_2 ++ (lw_privs_3 ++ (lw_privs_4 ++ (lw_privs_5)))), lw_okq q
  exact List.forall_mem_append.mpr ⟨lw_r1, List.forall_mem_append.mpr ⟨lw_r2, List.forall_mem_append.mpr ⟨lw_r3, List.forall_mem_append.mpr ⟨lw_r4, lw_r5⟩⟩⟩⟩
-- ===== end of PART A; then your names; then what follows =====
end
section
/-! ===== BEGIN words of one list among another's, by their places ===== -/
theorem goodIn_r {big : List Cond} (ws : List Cond) (ps : List Nat) (hp : ws = ps.filterMap (fun i => big[i]?)) (h : ws.all goodWord = true) : GoodIn big ws := by
  intro w hw
  have h1 := List.all_eq_true.mp h w hw
  rw [hp] at hw
  obtain ⟨i, -, hi⟩ := List.mem_filterMap.mp hw
  have hm : w ∈ big := by first | exact List.mem_of_getElem? hi | exact List.getElem?_mem hi
  exact ⟨hm, good_of_word h1⟩
theorem goodIn_app {big a b : List Cond} (ha : GoodIn big a) (hb : GoodIn big b) : GoodIn big (a ++ b) := fun w h => (List.mem_append.mp h).elim (ha w) (hb w)
theorem goodIn_ca {big a b : List Cond} {c : Cond} (ha : GoodIn big (c :: a)) (hb : GoodIn big b) : GoodIn big (c :: (a ++ b)) := fun w h => (List.mem_cons.mp h).elim (fun e => ha w (List.mem_cons.mpr (Or.inl e))) (fun h => (List.mem_append.mp h).elim (fun h => ha w (List.mem_cons.mpr (Or.inr h))) (hb w))
theorem goodIn_sub {big ws : List Cond} (hm : ∀ w ∈ ws, w ∈ big) (h : ws.all goodWord = true) : GoodIn big ws := fun w hw => ⟨hm w hw, good_of_word (List.all_eq_true.mp h w hw)⟩
/-! ===== END ===== -/

/-! ===== BEGIN printed: names, fields, word lists, decode rows ===== -/
def RX0 : String := "PolarTypes$Row"
def TX0 : u_T := fun k => match k with
  | 0 => ("PolarTypes$Row", "items", "[I", false)
  | _ => ("PolarTypes$Row", "size", "I", false)
def tyX0 : Nat → FieldType := fun k => match k with
  | 0 => .array .int
  | _ => .int
abbrev wsX00 : List Cond := u_ws RX0 TX0 2
theorem nmX0 : ∀ a, a < 2 → ∀ b, b < 2 → a ≠ b → (TX0 a).2.1 ≠ (TX0 b).2.1 := by decide +kernel
theorem tyX0_ok : ∀ k, k < 2 → parseFieldDescriptor (TX0 k).2.2.1 = some (tyX0 k) := by decide +kernel
abbrev cX0_init : ByteArray := prog_2_method_1_code
def yX0_init : MethodName := ⟨RX0, "<init>", "()V"⟩
abbrev cX0_init_ : ByteArray := prog_2_method_2_code
def yX0_init_ : MethodName := ⟨RX0, "<init>", "(I)V"⟩
abbrev cX0_holds : ByteArray := prog_2_method_3_code
def yX0_holds : MethodName := ⟨RX0, "holds", "(I)Z"⟩
abbrev cX0_get : ByteArray := prog_2_method_4_code
def yX0_get : MethodName := ⟨RX0, "get", "(I)I"⟩
abbrev cX0_set : ByteArray := prog_2_method_5_code
def yX0_set : MethodName := ⟨RX0, "set", "(II)V"⟩
abbrev cX0_add : ByteArray := prog_2_method_6_code
def yX0_add : MethodName := ⟨RX0, "add", "(I)V"⟩
abbrev cX0_cutTo : ByteArray := prog_2_method_7_code
def yX0_cutTo : MethodName := ⟨RX0, "cutTo", "(I)V"⟩
def RX1 : String := "PolarTypes$Signs"
def TX1 : u_T := fun k => match k with
  | 0 => ("PolarTypes$Signs", "kept", "[B", true)
  | _ => ("PolarTypes$Signs", "size", "I", false)
def tyX1 : Nat → FieldType := fun k => match k with
  | 0 => .array .byte
  | _ => .int
abbrev wsX10 : List Cond := u_ws RX1 TX1 2
theorem nmX1 : ∀ a, a < 2 → ∀ b, b < 2 → a ≠ b → (TX1 a).2.1 ≠ (TX1 b).2.1 := by decide +kernel
theorem tyX1_ok : ∀ k, k < 2 → parseFieldDescriptor (TX1 k).2.2.1 = some (tyX1 k) := by decide +kernel
abbrev cX1_init : ByteArray := prog_3_method_1_code
def yX1_init : MethodName := ⟨RX1, "<init>", "(I)V"⟩
abbrev cX1_clear : ByteArray := prog_3_method_2_code
def yX1_clear : MethodName := ⟨RX1, "clear", "()V"⟩
abbrev cX1_isFull : ByteArray := prog_3_method_3_code
def yX1_isFull : MethodName := ⟨RX1, "isFull", "()Z"⟩
abbrev cX1_put : ByteArray := prog_3_method_4_code
def yX1_put : MethodName := ⟨RX1, "put", "(C)V"⟩
abbrev cX1_putLetter : ByteArray := prog_3_method_5_code
def yX1_putLetter : MethodName := ⟨RX1, "putLetter", "(I)V"⟩
abbrev cX1_putFigures : ByteArray := prog_3_method_6_code
def yX1_putFigures : MethodName := ⟨RX1, "putFigures", "(I)V"⟩
abbrev cX1_at : ByteArray := prog_3_method_7_code
def yX1_at : MethodName := ⟨RX1, "at", "(I)I"⟩
def RX2 : String := "PolarTypes$Teller"
def TX2 : u_T := fun k => match k with
  | 0 => ("PolarTypes$Teller", "types", "LPolarTypes$Types;", true)
  | 1 => ("PolarTypes$Teller", "openTypes", "LPolarTypes$Row;", true)
  | 2 => ("PolarTypes$Teller", "openWays", "LPolarTypes$Row;", true)
  | 3 => ("PolarTypes$Teller", "openPlaces", "LPolarTypes$Row;", true)
  | 4 => ("PolarTypes$Teller", "isOpen", "LPolarTypes$Row;", true)
  | _ => ("PolarTypes$Teller", "signs", "LPolarTypes$Signs;", false)
def tyX2 : Nat → FieldType := fun k => match k with
  | 0 => .object "PolarTypes$Types"
  | 1 => .object "PolarTypes$Row"
  | 2 => .object "PolarTypes$Row"
  | 3 => .object "PolarTypes$Row"
  | 4 => .object "PolarTypes$Row"
  | _ => .object "PolarTypes$Signs"
abbrev wsX20 : List Cond := u_ws RX2 TX2 6
theorem nmX2 : ∀ a, a < 6 → ∀ b, b < 6 → a ≠ b → (TX2 a).2.1 ≠ (TX2 b).2.1 := by decide +kernel
theorem tyX2_ok : ∀ k, k < 6 → parseFieldDescriptor (TX2 k).2.2.1 = some (tyX2 k) := by decide +kernel
abbrev cX2_init : ByteArray := prog_4_method_1_code
def yX2_init : MethodName := ⟨RX2, "<init>", "(LPolarTypes$Types;)V"⟩
abbrev cX2_tell : ByteArray := prog_4_method_2_code
def yX2_tell : MethodName := ⟨RX2, "tell", "(IILPolarTypes$Signs;)V"⟩
abbrev cX2_begin : ByteArray := prog_4_method_3_code
def yX2_begin : MethodName := ⟨RX2, "begin", "(II)V"⟩
abbrev cX2_putNumber : ByteArray := prog_4_method_4_code
def yX2_putNumber : MethodName := ⟨RX2, "putNumber", "(I)V"⟩
abbrev cX2_goOn : ByteArray := prog_4_method_5_code
def yX2_goOn : MethodName := ⟨RX2, "goOn", "()V"⟩
abbrev cX2_close : ByteArray := prog_4_method_6_code
def yX2_close : MethodName := ⟨RX2, "close", "()V"⟩
def RX3 : String := "PolarTypes$Tree"
def TX3 : u_T := fun k => match k with
  | 0 => ("PolarTypes$Tree", "kinds", "LPolarTypes$Row;", true)
  | 1 => ("PolarTypes$Tree", "marks", "LPolarTypes$Row;", true)
  | 2 => ("PolarTypes$Tree", "owners", "LPolarTypes$Row;", true)
  | 3 => ("PolarTypes$Tree", "partCounts", "LPolarTypes$Row;", true)
  | 4 => ("PolarTypes$Tree", "parts", "LPolarTypes$Row;", true)
  | _ => ("PolarTypes$Tree", "labels", "LPolarTypes$Row;", true)
def tyX3 : Nat → FieldType := fun k => match k with
  | 0 => .object "PolarTypes$Row"
  | 1 => .object "PolarTypes$Row"
  | 2 => .object "PolarTypes$Row"
  | 3 => .object "PolarTypes$Row"
  | 4 => .object "PolarTypes$Row"
  | _ => .object "PolarTypes$Row"
abbrev wsX30 : List Cond := u_ws RX3 TX3 6
theorem nmX3 : ∀ a, a < 6 → ∀ b, b < 6 → a ≠ b → (TX3 a).2.1 ≠ (TX3 b).2.1 := by decide +kernel
theorem tyX3_ok : ∀ k, k < 6 → parseFieldDescriptor (TX3 k).2.2.1 = some (tyX3 k) := by decide +kernel
abbrev cX3_init : ByteArray := prog_5_method_1_code
def yX3_init : MethodName := ⟨RX3, "<init>", "()V"⟩
abbrev cX3_isKind : ByteArray := prog_5_method_2_code
def yX3_isKind : MethodName := ⟨RX3, "isKind", "(I)Z"⟩
abbrev cX3_isLetter : ByteArray := prog_5_method_3_code
def yX3_isLetter : MethodName := ⟨RX3, "isLetter", "(I)Z"⟩
abbrev cX3_partsOfKind : ByteArray := prog_5_method_4_code
def yX3_partsOfKind : MethodName := ⟨RX3, "partsOfKind", "(I)I"⟩
abbrev cX3_hasLetter : ByteArray := prog_5_method_5_code
def yX3_hasLetter : MethodName := ⟨RX3, "hasLetter", "(I)Z"⟩
abbrev cX3_isFitting : ByteArray := prog_5_method_6_code
def yX3_isFitting : MethodName := ⟨RX3, "isFitting", "(II)Z"⟩
abbrev cX3_size : ByteArray := prog_5_method_7_code
def yX3_size : MethodName := ⟨RX3, "size", "()I"⟩
abbrev cX3_isFull : ByteArray := prog_5_method_8_code
def yX3_isFull : MethodName := ⟨RX3, "isFull", "()Z"⟩
abbrev cX3_isNode : ByteArray := prog_5_method_9_code
def yX3_isNode : MethodName := ⟨RX3, "isNode", "(I)Z"⟩
abbrev cX3_isFree : ByteArray := prog_5_method_10_code
def yX3_isFree : MethodName := ⟨RX3, "isFree", "(I)Z"⟩
abbrev cX3_canBeParts : ByteArray := prog_5_method_11_code
def yX3_canBeParts : MethodName := ⟨RX3, "canBeParts", "(IIII)Z"⟩
abbrev cX3_addNode : ByteArray := prog_5_method_12_code
def yX3_addNode : MethodName := ⟨RX3, "addNode", "(IIIII)I"⟩
abbrev cX3_addPart : ByteArray := prog_5_method_13_code
def yX3_addPart : MethodName := ⟨RX3, "addPart", "(III)V"⟩
abbrev cX3_kindOf : ByteArray := prog_5_method_14_code
def yX3_kindOf : MethodName := ⟨RX3, "kindOf", "(I)I"⟩
abbrev cX3_markOf : ByteArray := prog_5_method_15_code
def yX3_markOf : MethodName := ⟨RX3, "markOf", "(I)I"⟩
abbrev cX3_ownerOf : ByteArray := prog_5_method_16_code
def yX3_ownerOf : MethodName := ⟨RX3, "ownerOf", "(I)I"⟩
abbrev cX3_partCount : ByteArray := prog_5_method_17_code
def yX3_partCount : MethodName := ⟨RX3, "partCount", "(I)I"⟩
abbrev cX3_partOf : ByteArray := prog_5_method_18_code
def yX3_partOf : MethodName := ⟨RX3, "partOf", "(II)I"⟩
abbrev cX3_labelOf : ByteArray := prog_5_method_19_code
def yX3_labelOf : MethodName := ⟨RX3, "labelOf", "(II)I"⟩
abbrev cX3_hasLabel : ByteArray := prog_5_method_20_code
def yX3_hasLabel : MethodName := ⟨RX3, "hasLabel", "(II)Z"⟩
abbrev cX3_placeOf : ByteArray := prog_5_method_21_code
def yX3_placeOf : MethodName := ⟨RX3, "placeOf", "(II)I"⟩
abbrev cX3_topOf : ByteArray := prog_5_method_22_code
def yX3_topOf : MethodName := ⟨RX3, "topOf", "(I)I"⟩
abbrev cX3_freeCount : ByteArray := prog_5_method_23_code
def yX3_freeCount : MethodName := ⟨RX3, "freeCount", "()I"⟩
abbrev cX3_binderOf : ByteArray := prog_5_method_24_code
def yX3_binderOf : MethodName := ⟨RX3, "binderOf", "(II)I"⟩
abbrev cX3_bindsIn : ByteArray := prog_5_method_25_code
def yX3_bindsIn : MethodName := ⟨RX3, "bindsIn", "(II)Z"⟩
def RX4 : String := "PolarTypes$Types"
def TX4 : u_T := fun k => match k with
  | 0 => ("PolarTypes$Types", "sorts", "LPolarTypes$Row;", true)
  | 1 => ("PolarTypes$Types", "levels", "LPolarTypes$Row;", true)
  | 2 => ("PolarTypes$Types", "firsts", "LPolarTypes$Row;", true)
  | 3 => ("PolarTypes$Types", "seconds", "LPolarTypes$Row;", true)
  | 4 => ("PolarTypes$Types", "fieldLabels", "LPolarTypes$Row;", true)
  | 5 => ("PolarTypes$Types", "fieldParts", "LPolarTypes$Row;", true)
  | 6 => ("PolarTypes$Types", "stagedLabels", "LPolarTypes$Row;", true)
  | 7 => ("PolarTypes$Types", "stagedParts", "LPolarTypes$Row;", true)
  | 8 => ("PolarTypes$Types", "variables", "LPolarTypes$Row;", true)
  | 9 => ("PolarTypes$Types", "bounds", "[LPolarTypes$Row;", true)
  | 10 => ("PolarTypes$Types", "noBounds", "LPolarTypes$Row;", true)
  | 11 => ("PolarTypes$Types", "lastAsked", "LPolarTypes$Row;", true)
  | 12 => ("PolarTypes$Types", "askedHighs", "LPolarTypes$Row;", true)
  | _ => ("PolarTypes$Types", "askedAhead", "LPolarTypes$Row;", true)
def tyX4 : Nat → FieldType := fun k => match k with
  | 0 => .object "PolarTypes$Row"
  | 1 => .object "PolarTypes$Row"
  | 2 => .object "PolarTypes$Row"
  | 3 => .object "PolarTypes$Row"
  | 4 => .object "PolarTypes$Row"
  | 5 => .object "PolarTypes$Row"
  | 6 => .object "PolarTypes$Row"
  | 7 => .object "PolarTypes$Row"
  | 8 => .object "PolarTypes$Row"
  | 9 => .array (.object "PolarTypes$Row")
  | 10 => .object "PolarTypes$Row"
  | 11 => .object "PolarTypes$Row"
  | 12 => .object "PolarTypes$Row"
  | _ => .object "PolarTypes$Row"
abbrev wsX40 : List Cond := u_ws RX4 TX4 14
theorem nmX4 : ∀ a, a < 14 → ∀ b, b < 14 → a ≠ b → (TX4 a).2.1 ≠ (TX4 b).2.1 := by decide +kernel
theorem tyX4_ok : ∀ k, k < 14 → parseFieldDescriptor (TX4 k).2.2.1 = some (tyX4 k) := by decide +kernel
abbrev cX4_init : ByteArray := prog_6_method_1_code
def yX4_init : MethodName := ⟨RX4, "<init>", "()V"⟩
abbrev cX4_startAnew : ByteArray := prog_6_method_2_code
def yX4_startAnew : MethodName := ⟨RX4, "startAnew", "()V"⟩
abbrev cX4_addType : ByteArray := prog_6_method_3_code
def yX4_addType : MethodName := ⟨RX4, "addType", "(IIII)I"⟩
abbrev cX4_addVariable : ByteArray := prog_6_method_4_code
def yX4_addVariable : MethodName := ⟨RX4, "addVariable", "(I)I"⟩
abbrev cX4_emptyBounds : ByteArray := prog_6_method_5_code
def yX4_emptyBounds : MethodName := ⟨RX4, "emptyBounds", "(I)V"⟩
abbrev cX4_addFunction : ByteArray := prog_6_method_6_code
def yX4_addFunction : MethodName := ⟨RX4, "addFunction", "(II)I"⟩
abbrev cX4_stagedCount : ByteArray := prog_6_method_7_code
def yX4_stagedCount : MethodName := ⟨RX4, "stagedCount", "()I"⟩
abbrev cX4_stage : ByteArray := prog_6_method_8_code
def yX4_stage : MethodName := ⟨RX4, "stage", "(II)V"⟩
abbrev cX4_addRecord : ByteArray := prog_6_method_9_code
def yX4_addRecord : MethodName := ⟨RX4, "addRecord", "(I)I"⟩
abbrev cX4_sortOf : ByteArray := prog_6_method_10_code
def yX4_sortOf : MethodName := ⟨RX4, "sortOf", "(I)I"⟩
abbrev cX4_levelOf : ByteArray := prog_6_method_11_code
def yX4_levelOf : MethodName := ⟨RX4, "levelOf", "(I)I"⟩
abbrev cX4_firstOf : ByteArray := prog_6_method_12_code
def yX4_firstOf : MethodName := ⟨RX4, "firstOf", "(I)I"⟩
abbrev cX4_secondOf : ByteArray := prog_6_method_13_code
def yX4_secondOf : MethodName := ⟨RX4, "secondOf", "(I)I"⟩
abbrev cX4_numberOf : ByteArray := prog_6_method_14_code
def yX4_numberOf : MethodName := ⟨RX4, "numberOf", "(I)I"⟩
abbrev cX4_boundsOf : ByteArray := prog_6_method_15_code
def yX4_boundsOf : MethodName := ⟨RX4, "boundsOf", "(II)LPolarTypes$Row;"⟩
abbrev cX4_fieldCount : ByteArray := prog_6_method_16_code
def yX4_fieldCount : MethodName := ⟨RX4, "fieldCount", "(I)I"⟩
abbrev cX4_labelAt : ByteArray := prog_6_method_17_code
def yX4_labelAt : MethodName := ⟨RX4, "labelAt", "(II)I"⟩
abbrev cX4_partAt : ByteArray := prog_6_method_18_code
def yX4_partAt : MethodName := ⟨RX4, "partAt", "(II)I"⟩
abbrev cX4_partBy : ByteArray := prog_6_method_19_code
def yX4_partBy : MethodName := ⟨RX4, "partBy", "(II)I"⟩
abbrev cX4_variableCount : ByteArray := prog_6_method_20_code
def yX4_variableCount : MethodName := ⟨RX4, "variableCount", "()I"⟩
abbrev cX4_ofVariable : ByteArray := prog_6_method_21_code
def yX4_ofVariable : MethodName := ⟨RX4, "ofVariable", "(I)I"⟩
abbrev cX4_wasAsked : ByteArray := prog_6_method_22_code
def yX4_wasAsked : MethodName := ⟨RX4, "wasAsked", "(II)Z"⟩
def RX5 : String := "PolarTypes$Typing"
def TX5 : u_T := fun k => match k with
  | 0 => ("PolarTypes$Typing", "tree", "LPolarTypes$Tree;", true)
  | 1 => ("PolarTypes$Typing", "types", "LPolarTypes$Types;", true)
  | 2 => ("PolarTypes$Typing", "teller", "LPolarTypes$Teller;", true)
  | 3 => ("PolarTypes$Typing", "signs", "LPolarTypes$Signs;", true)
  | 4 => ("PolarTypes$Typing", "givens", "LPolarTypes$Row;", true)
  | 5 => ("PolarTypes$Typing", "schemes", "LPolarTypes$Row;", true)
  | 6 => ("PolarTypes$Typing", "copies", "LPolarTypes$Row;", true)
  | 7 => ("PolarTypes$Typing", "copyTimes", "LPolarTypes$Row;", true)
  | 8 => ("PolarTypes$Typing", "time", "I", false)
  | 9 => ("PolarTypes$Typing", "copyAbove", "I", false)
  | 10 => ("PolarTypes$Typing", "copyLevel", "I", false)
  | 11 => ("PolarTypes$Typing", "top", "I", false)
  | 12 => ("PolarTypes$Typing", "asked", "I", false)
  | 13 => ("PolarTypes$Typing", "place", "I", false)
  | _ => ("PolarTypes$Typing", "outcome", "I", false)
def tyX5 : Nat → FieldType := fun k => match k with
  | 0 => .object "PolarTypes$Tree"
  | 1 => .object "PolarTypes$Types"
  | 2 => .object "PolarTypes$Teller"
  | 3 => .object "PolarTypes$Signs"
  | 4 => .object "PolarTypes$Row"
  | 5 => .object "PolarTypes$Row"
  | 6 => .object "PolarTypes$Row"
  | 7 => .object "PolarTypes$Row"
  | 8 => .int
  | 9 => .int
  | 10 => .int
  | 11 => .int
  | 12 => .int
  | 13 => .int
  | _ => .int
abbrev wsX50 : List Cond := u_ws RX5 TX5 15
theorem nmX5 : ∀ a, a < 15 → ∀ b, b < 15 → a ≠ b → (TX5 a).2.1 ≠ (TX5 b).2.1 := by decide +kernel
theorem tyX5_ok : ∀ k, k < 15 → parseFieldDescriptor (TX5 k).2.2.1 = some (tyX5 k) := by decide +kernel
abbrev cX5_init : ByteArray := prog_7_method_1_code
def yX5_init : MethodName := ⟨RX5, "<init>", "(LPolarTypes$Tree;)V"⟩
abbrev cX5_forget : ByteArray := prog_7_method_2_code
def yX5_forget : MethodName := ⟨RX5, "forget", "()V"⟩
abbrev cX5_typeProgram : ByteArray := prog_7_method_3_code
def yX5_typeProgram : MethodName := ⟨RX5, "typeProgram", "(I)I"⟩
abbrev cX5_typed : ByteArray := prog_7_method_4_code
def yX5_typed : MethodName := ⟨RX5, "typed", "(III)I"⟩
abbrev cX5_typedName : ByteArray := prog_7_method_5_code
def yX5_typedName : MethodName := ⟨RX5, "typedName", "(II)I"⟩
abbrev cX5_gives : ByteArray := prog_7_method_6_code
def yX5_gives : MethodName := ⟨RX5, "gives", "(III)V"⟩
abbrev cX5_typedFunction : ByteArray := prog_7_method_7_code
def yX5_typedFunction : MethodName := ⟨RX5, "typedFunction", "(III)I"⟩
abbrev cX5_typedApply : ByteArray := prog_7_method_8_code
def yX5_typedApply : MethodName := ⟨RX5, "typedApply", "(III)I"⟩
abbrev cX5_typedRecord : ByteArray := prog_7_method_9_code
def yX5_typedRecord : MethodName := ⟨RX5, "typedRecord", "(III)I"⟩
abbrev cX5_typedField : ByteArray := prog_7_method_10_code
def yX5_typedField : MethodName := ⟨RX5, "typedField", "(III)I"⟩
abbrev cX5_typedLet : ByteArray := prog_7_method_11_code
def yX5_typedLet : MethodName := ⟨RX5, "typedLet", "(III)I"⟩
abbrev cX5_typedRec : ByteArray := prog_7_method_12_code
def yX5_typedRec : MethodName := ⟨RX5, "typedRec", "(III)I"⟩
abbrev cX5_typedPick : ByteArray := prog_7_method_13_code
def yX5_typedPick : MethodName := ⟨RX5, "typedPick", "(III)I"⟩
abbrev cX5_typedWholes : ByteArray := prog_7_method_14_code
def yX5_typedWholes : MethodName := ⟨RX5, "typedWholes", "(III)I"⟩
abbrev cX5_under : ByteArray := prog_7_method_15_code
def yX5_under : MethodName := ⟨RX5, "under", "(III)I"⟩
abbrev cX5_whatIsDue : ByteArray := prog_7_method_16_code
def yX5_whatIsDue : MethodName := ⟨RX5, "whatIsDue", "(II)I"⟩
abbrev cX5_startCopying : ByteArray := prog_7_method_17_code
def yX5_startCopying : MethodName := ⟨RX5, "startCopying", "(II)V"⟩
abbrev cX5_copied : ByteArray := prog_7_method_18_code
def yX5_copied : MethodName := ⟨RX5, "copied", "(III)I"⟩
abbrev cX5_otherWay : ByteArray := prog_7_method_19_code
def yX5_otherWay : MethodName := ⟨RX5, "otherWay", "(I)I"⟩
abbrev cX5_isTaken : ByteArray := prog_7_method_20_code
def yX5_isTaken : MethodName := ⟨RX5, "isTaken", "(II)Z"⟩
def RX6 : String := "PolarTypes$Working"
def TX6 : u_T := fun k => match k with
  | 0 => ("PolarTypes$Working", "tree", "LPolarTypes$Tree;", true)
  | 1 => ("PolarTypes$Working", "signs", "LPolarTypes$Signs;", true)
  | 2 => ("PolarTypes$Working", "sorts", "LPolarTypes$Row;", true)
  | 3 => ("PolarTypes$Working", "cores", "LPolarTypes$Row;", true)
  | 4 => ("PolarTypes$Working", "links", "LPolarTypes$Row;", true)
  | 5 => ("PolarTypes$Working", "fieldValues", "LPolarTypes$Row;", true)
  | 6 => ("PolarTypes$Working", "sightLetters", "LPolarTypes$Row;", true)
  | 7 => ("PolarTypes$Working", "sightValues", "LPolarTypes$Row;", true)
  | 8 => ("PolarTypes$Working", "sightRecs", "LPolarTypes$Row;", true)
  | 9 => ("PolarTypes$Working", "sightNexts", "LPolarTypes$Row;", true)
  | 10 => ("PolarTypes$Working", "allowed", "I", false)
  | 11 => ("PolarTypes$Working", "begun", "I", false)
  | 12 => ("PolarTypes$Working", "place", "I", false)
  | _ => ("PolarTypes$Working", "outcome", "I", false)
def tyX6 : Nat → FieldType := fun k => match k with
  | 0 => .object "PolarTypes$Tree"
  | 1 => .object "PolarTypes$Signs"
  | 2 => .object "PolarTypes$Row"
  | 3 => .object "PolarTypes$Row"
  | 4 => .object "PolarTypes$Row"
  | 5 => .object "PolarTypes$Row"
  | 6 => .object "PolarTypes$Row"
  | 7 => .object "PolarTypes$Row"
  | 8 => .object "PolarTypes$Row"
  | 9 => .object "PolarTypes$Row"
  | 10 => .int
  | 11 => .int
  | 12 => .int
  | _ => .int
abbrev wsX60 : List Cond := u_ws RX6 TX6 14
theorem nmX6 : ∀ a, a < 14 → ∀ b, b < 14 → a ≠ b → (TX6 a).2.1 ≠ (TX6 b).2.1 := by decide +kernel
theorem tyX6_ok : ∀ k, k < 14 → parseFieldDescriptor (TX6 k).2.2.1 = some (tyX6 k) := by decide +kernel
abbrev cX6_init : ByteArray := prog_8_method_1_code
def yX6_init : MethodName := ⟨RX6, "<init>", "(LPolarTypes$Tree;)V"⟩
abbrev cX6_workProgram : ByteArray := prog_8_method_2_code
def yX6_workProgram : MethodName := ⟨RX6, "workProgram", "(II)I"⟩
abbrev cX6_startAnew : ByteArray := prog_8_method_3_code
def yX6_startAnew : MethodName := ⟨RX6, "startAnew", "(I)V"⟩
abbrev cX6_addValue : ByteArray := prog_8_method_4_code
def yX6_addValue : MethodName := ⟨RX6, "addValue", "(III)I"⟩
abbrev cX6_addSight : ByteArray := prog_8_method_5_code
def yX6_addSight : MethodName := ⟨RX6, "addSight", "(IIII)I"⟩
abbrev cX6_stuckAt : ByteArray := prog_8_method_6_code
def yX6_stuckAt : MethodName := ⟨RX6, "stuckAt", "(I)I"⟩
abbrev cX6_run : ByteArray := prog_8_method_7_code
def yX6_run : MethodName := ⟨RX6, "run", "(III)I"⟩
abbrev cX6_runName : ByteArray := prog_8_method_8_code
def yX6_runName : MethodName := ⟨RX6, "runName", "(III)I"⟩
abbrev cX6_seenBy : ByteArray := prog_8_method_9_code
def yX6_seenBy : MethodName := ⟨RX6, "seenBy", "(II)I"⟩
abbrev cX6_runApply : ByteArray := prog_8_method_10_code
def yX6_runApply : MethodName := ⟨RX6, "runApply", "(III)I"⟩
abbrev cX6_runRecord : ByteArray := prog_8_method_11_code
def yX6_runRecord : MethodName := ⟨RX6, "runRecord", "(III)I"⟩
abbrev cX6_runField : ByteArray := prog_8_method_12_code
def yX6_runField : MethodName := ⟨RX6, "runField", "(III)I"⟩
abbrev cX6_runLet : ByteArray := prog_8_method_13_code
def yX6_runLet : MethodName := ⟨RX6, "runLet", "(III)I"⟩
abbrev cX6_runRec : ByteArray := prog_8_method_14_code
def yX6_runRec : MethodName := ⟨RX6, "runRec", "(III)I"⟩
abbrev cX6_runPick : ByteArray := prog_8_method_15_code
def yX6_runPick : MethodName := ⟨RX6, "runPick", "(III)I"⟩
abbrev cX6_runWholes : ByteArray := prog_8_method_16_code
def yX6_runWholes : MethodName := ⟨RX6, "runWholes", "(III)I"⟩
abbrev cX6_putValue : ByteArray := prog_8_method_17_code
def yX6_putValue : MethodName := ⟨RX6, "putValue", "(II)V"⟩
def RX7 : String := "PolarTypes"
def TX7 : u_T := fun k => match k with
  | 0 => ("PolarTypes", "tree", "LPolarTypes$Tree;", true)
  | 1 => ("PolarTypes", "typing", "LPolarTypes$Typing;", true)
  | 2 => ("PolarTypes", "working", "LPolarTypes$Working;", true)
  | _ => ("PolarTypes", "boundSigns", "LPolarTypes$Signs;", true)
def tyX7 : Nat → FieldType := fun k => match k with
  | 0 => .object "PolarTypes$Tree"
  | 1 => .object "PolarTypes$Typing"
  | 2 => .object "PolarTypes$Working"
  | _ => .object "PolarTypes$Signs"
abbrev wsX70 : List Cond := u_ws RX7 TX7 4
theorem nmX7 : ∀ a, a < 4 → ∀ b, b < 4 → a ≠ b → (TX7 a).2.1 ≠ (TX7 b).2.1 := by decide +kernel
theorem tyX7_ok : ∀ k, k < 4 → parseFieldDescriptor (TX7 k).2.2.1 = some (tyX7 k) := by decide +kernel
abbrev cX7_init : ByteArray := prog_1_method_1_code
def yX7_init : MethodName := ⟨RX7, "<init>", "()V"⟩
abbrev cX7_node : ByteArray := prog_1_method_2_code
def yX7_node : MethodName := ⟨RX7, "node", "(IIIII)I"⟩
abbrev cX7_field : ByteArray := prog_1_method_3_code
def yX7_field : MethodName := ⟨RX7, "field", "(III)I"⟩
abbrev cX7_told : ByteArray := prog_1_method_4_code
def yX7_told : MethodName := ⟨RX7, "told", "(II)I"⟩
abbrev cX7_type : ByteArray := prog_1_method_5_code
def yX7_type : MethodName := ⟨RX7, "type", "(I)I"⟩
abbrev cX7_where : ByteArray := prog_1_method_6_code
def yX7_where : MethodName := ⟨RX7, "where", "()I"⟩
abbrev cX7_steps : ByteArray := prog_1_method_7_code
def yX7_steps : MethodName := ⟨RX7, "steps", "()I"⟩
abbrev cX7_sign : ByteArray := prog_1_method_8_code
def yX7_sign : MethodName := ⟨RX7, "sign", "(I)I"⟩
abbrev cX7_variable : ByteArray := prog_1_method_9_code
def yX7_variable : MethodName := ⟨RX7, "variable", "(II)I"⟩
abbrev cX7_bound : ByteArray := prog_1_method_10_code
def yX7_bound : MethodName := ⟨RX7, "bound", "(IZII)I"⟩
abbrev cX7_work : ByteArray := prog_1_method_11_code
def yX7_work : MethodName := ⟨RX7, "work", "(II)I"⟩
abbrev cX7_value : ByteArray := prog_1_method_12_code
def yX7_value : MethodName := ⟨RX7, "value", "(I)I"⟩
abbrev cX7_worked : ByteArray := prog_1_method_13_code
def yX7_worked : MethodName := ⟨RX7, "worked", "()I"⟩
abbrev cX7_stuck : ByteArray := prog_1_method_14_code
def yX7_stuck : MethodName := ⟨RX7, "stuck", "()I"⟩
abbrev cX7_count : ByteArray := prog_1_method_15_code
def yX7_count : MethodName := ⟨RX7, "count", "(I)I"⟩
abbrev cX7_digest : ByteArray := prog_1_method_16_code
def yX7_digest : MethodName := ⟨RX7, "digest", "()J"⟩
def RX8 : String := "PolarTypesModel"
def TX8 : u_T := fun k => match k with
  | 0 => ("PolarTypesModel", "nodes", "I", false)
  | 1 => ("PolarTypesModel", "kindOf", "[I", true)
  | 2 => ("PolarTypesModel", "valueOf", "[I", true)
  | 3 => ("PolarTypesModel", "partMany", "[I", true)
  | 4 => ("PolarTypesModel", "parts", "[I", true)
  | 5 => ("PolarTypesModel", "labels", "[I", true)
  | 6 => ("PolarTypesModel", "up", "[I", true)
  | 7 => ("PolarTypesModel", "types", "I", false)
  | 8 => ("PolarTypesModel", "sortOf", "[I", true)
  | 9 => ("PolarTypesModel", "levelOf", "[I", true)
  | 10 => ("PolarTypesModel", "one", "[I", true)
  | 11 => ("PolarTypesModel", "two", "[I", true)
  | 12 => ("PolarTypesModel", "rowLabel", "[I", true)
  | 13 => ("PolarTypesModel", "rowType", "[I", true)
  | 14 => ("PolarTypesModel", "variables", "I", false)
  | 15 => ("PolarTypesModel", "variableType", "[I", true)
  | 16 => ("PolarTypesModel", "bounds", "I", false)
  | 17 => ("PolarTypesModel", "boundType", "[I", true)
  | 18 => ("PolarTypesModel", "boundNext", "[I", true)
  | 19 => ("PolarTypesModel", "firstBound", "[I", true)
  | 20 => ("PolarTypesModel", "lastBound", "[I", true)
  | 21 => ("PolarTypesModel", "boundMany", "[I", true)
  | 22 => ("PolarTypesModel", "isTyped", "Z", false)
  | 23 => ("PolarTypesModel", "answer", "I", false)
  | 24 => ("PolarTypesModel", "where", "I", false)
  | 25 => ("PolarTypesModel", "asking", "I", false)
  | 26 => ("PolarTypesModel", "steps", "I", false)
  | 27 => ("PolarTypesModel", "stop", "I", false)
  | 28 => ("PolarTypesModel", "askedMany", "I", false)
  | 29 => ("PolarTypesModel", "askedA", "[I", true)
  | 30 => ("PolarTypesModel", "askedB", "[I", true)
  | 31 => ("PolarTypesModel", "deepUnder", "I", false)
  | 32 => ("PolarTypesModel", "deepLift", "I", false)
  | 33 => ("PolarTypesModel", "deepAnew", "I", false)
  | 34 => ("PolarTypesModel", "deepTyping", "I", false)
  | 35 => ("PolarTypesModel", "lifts", "I", false)
  | 36 => ("PolarTypesModel", "liftedBy", "[I", true)
  | 37 => ("PolarTypesModel", "lifted", "[I", true)
  | 38 => ("PolarTypesModel", "held", "[I", true)
  | 39 => ("PolarTypesModel", "heldMany", "I", false)
  | 40 => ("PolarTypesModel", "anewBy", "[I", true)
  | 41 => ("PolarTypesModel", "anewType", "[I", true)
  | 42 => ("PolarTypesModel", "anews", "I", false)
  | 43 => ("PolarTypesModel", "gave", "[I", true)
  | 44 => ("PolarTypesModel", "scheme", "[I", true)
  | 45 => ("PolarTypesModel", "top", "I", false)
  | 46 => ("PolarTypesModel", "bytes", "[B", true)
  | 47 => ("PolarTypesModel", "byteMany", "I", false)
  | 48 => ("PolarTypesModel", "most", "I", false)
  | 49 => ("PolarTypesModel", "isWithin", "[Z", true)
  | 50 => ("PolarTypesModel", "figures", "[I", true)
  | 51 => ("PolarTypesModel", "values", "I", false)
  | 52 => ("PolarTypesModel", "vIs", "[I", true)
  | 53 => ("PolarTypesModel", "vN", "[I", true)
  | 54 => ("PolarTypesModel", "vEnv", "[I", true)
  | 55 => ("PolarTypesModel", "vParts", "[I", true)
  | 56 => ("PolarTypesModel", "envs", "I", false)
  | 57 => ("PolarTypesModel", "eName", "[I", true)
  | 58 => ("PolarTypesModel", "eValue", "[I", true)
  | 59 => ("PolarTypesModel", "eRec", "[I", true)
  | 60 => ("PolarTypesModel", "eNext", "[I", true)
  | 61 => ("PolarTypesModel", "outcome", "I", false)
  | 62 => ("PolarTypesModel", "worked", "I", false)
  | 63 => ("PolarTypesModel", "mostSteps", "I", false)
  | 64 => ("PolarTypesModel", "deep", "I", false)
  | 65 => ("PolarTypesModel", "stuck", "I", false)
  | 66 => ("PolarTypesModel", "result", "I", false)
  | _ => ("PolarTypesModel", "goes", "Z", false)
def tyX8 : Nat → FieldType := fun k => match k with
  | 0 => .int
  | 1 => .array .int
  | 2 => .array .int
  | 3 => .array .int
  | 4 => .array .int
  | 5 => .array .int
  | 6 => .array .int
  | 7 => .int
  | 8 => .array .int
  | 9 => .array .int
  | 10 => .array .int
  | 11 => .array .int
  | 12 => .array .int
  | 13 => .array .int
  | 14 => .int
  | 15 => .array .int
  | 16 => .int
  | 17 => .array .int
  | 18 => .array .int
  | 19 => .array .int
  | 20 => .array .int
  | 21 => .array .int
  | 22 => .boolean
  | 23 => .int
  | 24 => .int
  | 25 => .int
  | 26 => .int
  | 27 => .int
  | 28 => .int
  | 29 => .array .int
  | 30 => .array .int
  | 31 => .int
  | 32 => .int
  | 33 => .int
  | 34 => .int
  | 35 => .int
  | 36 => .array .int
  | 37 => .array .int
  | 38 => .array .int
  | 39 => .int
  | 40 => .array .int
  | 41 => .array .int
  | 42 => .int
  | 43 => .array .int
  | 44 => .array .int
  | 45 => .int
  | 46 => .array .byte
  | 47 => .int
  | 48 => .int
  | 49 => .array .boolean
  | 50 => .array .int
  | 51 => .int
  | 52 => .array .int
  | 53 => .array .int
  | 54 => .array .int
  | 55 => .array .int
  | 56 => .int
  | 57 => .array .int
  | 58 => .array .int
  | 59 => .array .int
  | 60 => .array .int
  | 61 => .int
  | 62 => .int
  | 63 => .int
  | 64 => .int
  | 65 => .int
  | 66 => .int
  | _ => .boolean
abbrev wsX80 : List Cond := u_ws RX8 TX8 68
theorem nmX8 : ∀ a, a < 68 → ∀ b, b < 68 → a ≠ b → (TX8 a).2.1 ≠ (TX8 b).2.1 := by decide +kernel
theorem tyX8_ok : ∀ k, k < 68 → parseFieldDescriptor (TX8 k).2.2.1 = some (tyX8 k) := by decide +kernel
abbrev cX8_init : ByteArray := prog_10_method_1_code
def yX8_init : MethodName := ⟨RX8, "<init>", "()V"⟩
abbrev cX8_in : ByteArray := prog_10_method_2_code
def yX8_in : MethodName := ⟨RX8, "in", "(III)Z"⟩
abbrev cX8_isNode : ByteArray := prog_10_method_3_code
def yX8_isNode : MethodName := ⟨RX8, "isNode", "(I)Z"⟩
abbrev cX8_partsOf : ByteArray := prog_10_method_4_code
def yX8_partsOf : MethodName := ⟨RX8, "partsOf", "(I)I"⟩
abbrev cX8_hasName : ByteArray := prog_10_method_5_code
def yX8_hasName : MethodName := ⟨RX8, "hasName", "(I)Z"⟩
abbrev cX8_isFree : ByteArray := prog_10_method_6_code
def yX8_isFree : MethodName := ⟨RX8, "isFree", "(I)Z"⟩
abbrev cX8_node : ByteArray := prog_10_method_7_code
def yX8_node : MethodName := ⟨RX8, "node", "(IIIII)I"⟩
abbrev cX8_isWithin : ByteArray := prog_10_method_8_code
def yX8_isWithin : MethodName := ⟨RX8, "isWithin", "(II)Z"⟩
abbrev cX8_placeOf : ByteArray := prog_10_method_9_code
def yX8_placeOf : MethodName := ⟨RX8, "placeOf", "(II)I"⟩
abbrev cX8_field : ByteArray := prog_10_method_10_code
def yX8_field : MethodName := ⟨RX8, "field", "(III)I"⟩
abbrev cX8_told : ByteArray := prog_10_method_11_code
def yX8_told : MethodName := ⟨RX8, "told", "(II)I"⟩
abbrev cX8_forgetTypes : ByteArray := prog_10_method_12_code
def yX8_forgetTypes : MethodName := ⟨RX8, "forgetTypes", "()V"⟩
abbrev cX8_stops : ByteArray := prog_10_method_13_code
def yX8_stops : MethodName := ⟨RX8, "stops", "(II)V"⟩
abbrev cX8_newType : ByteArray := prog_10_method_14_code
def yX8_newType : MethodName := ⟨RX8, "newType", "(II)I"⟩
abbrev cX8_newVariable : ByteArray := prog_10_method_15_code
def yX8_newVariable : MethodName := ⟨RX8, "newVariable", "(I)I"⟩
abbrev cX8_arrow : ByteArray := prog_10_method_16_code
def yX8_arrow : MethodName := ⟨RX8, "arrow", "(II)I"⟩
abbrev cX8_row : ByteArray := prog_10_method_17_code
def yX8_row : MethodName := ⟨RX8, "row", "()I"⟩
abbrev cX8_addTo : ByteArray := prog_10_method_18_code
def yX8_addTo : MethodName := ⟨RX8, "addTo", "(III)V"⟩
abbrev cX8_bind : ByteArray := prog_10_method_19_code
def yX8_bind : MethodName := ⟨RX8, "bind", "(III)V"⟩
abbrev cX8_wasAsked : ByteArray := prog_10_method_20_code
def yX8_wasAsked : MethodName := ⟨RX8, "wasAsked", "(II)Z"⟩
abbrev cX8_under : ByteArray := prog_10_method_21_code
def yX8_under : MethodName := ⟨RX8, "under", "(II)V"⟩
abbrev cX8_asks : ByteArray := prog_10_method_22_code
def yX8_asks : MethodName := ⟨RX8, "asks", "(II)V"⟩
abbrev cX8_labelAt : ByteArray := prog_10_method_23_code
def yX8_labelAt : MethodName := ⟨RX8, "labelAt", "(II)I"⟩
abbrev cX8_beginLift : ByteArray := prog_10_method_24_code
def yX8_beginLift : MethodName := ⟨RX8, "beginLift", "(III)I"⟩
abbrev cX8_lift : ByteArray := prog_10_method_25_code
def yX8_lift : MethodName := ⟨RX8, "lift", "(IIII)I"⟩
abbrev cX8_lifts : ByteArray := prog_10_method_26_code
def yX8_lifts : MethodName := ⟨RX8, "lifts", "(IIII)I"⟩
abbrev cX8_ofParts : ByteArray := prog_10_method_27_code
def yX8_ofParts : MethodName := ⟨RX8, "ofParts", "(IIIIZ)I"⟩
abbrev cX8_beginAnew : ByteArray := prog_10_method_28_code
def yX8_beginAnew : MethodName := ⟨RX8, "beginAnew", "(III)I"⟩
abbrev cX8_anew : ByteArray := prog_10_method_29_code
def yX8_anew : MethodName := ⟨RX8, "anew", "(III)I"⟩
abbrev cX8_anews : ByteArray := prog_10_method_30_code
def yX8_anews : MethodName := ⟨RX8, "anews", "(III)I"⟩
abbrev cX8_binderOf : ByteArray := prog_10_method_31_code
def yX8_binderOf : MethodName := ⟨RX8, "binderOf", "(II)I"⟩
abbrev cX8_typing : ByteArray := prog_10_method_32_code
def yX8_typing : MethodName := ⟨RX8, "typing", "(II)I"⟩
abbrev cX8_fresh : ByteArray := prog_10_method_33_code
def yX8_fresh : MethodName := ⟨RX8, "fresh", "(II)I"⟩
abbrev cX8_puts : ByteArray := prog_10_method_34_code
def yX8_puts : MethodName := ⟨RX8, "puts", "(III)V"⟩
abbrev cX8_types : ByteArray := prog_10_method_35_code
def yX8_types : MethodName := ⟨RX8, "types", "(II)I"⟩
abbrev cX8_typeOfName : ByteArray := prog_10_method_36_code
def yX8_typeOfName : MethodName := ⟨RX8, "typeOfName", "(II)I"⟩
abbrev cX8_typeOfRecord : ByteArray := prog_10_method_37_code
def yX8_typeOfRecord : MethodName := ⟨RX8, "typeOfRecord", "(II)I"⟩
abbrev cX8_type : ByteArray := prog_10_method_38_code
def yX8_type : MethodName := ⟨RX8, "type", "(I)I"⟩
abbrev cX8_where : ByteArray := prog_10_method_39_code
def yX8_where : MethodName := ⟨RX8, "where", "()I"⟩
abbrev cX8_steps : ByteArray := prog_10_method_40_code
def yX8_steps : MethodName := ⟨RX8, "steps", "()I"⟩
abbrev cX8_out : ByteArray := prog_10_method_41_code
def yX8_out : MethodName := ⟨RX8, "out", "(I)V"⟩
abbrev cX8_outNumber : ByteArray := prog_10_method_42_code
def yX8_outNumber : MethodName := ⟨RX8, "outNumber", "(I)V"⟩
abbrev cX8_tell : ByteArray := prog_10_method_43_code
def yX8_tell : MethodName := ⟨RX8, "tell", "(II)V"⟩
abbrev cX8_tellVariable : ByteArray := prog_10_method_44_code
def yX8_tellVariable : MethodName := ⟨RX8, "tellVariable", "(II)V"⟩
abbrev cX8_toldAs : ByteArray := prog_10_method_45_code
def yX8_toldAs : MethodName := ⟨RX8, "toldAs", "(III)I"⟩
abbrev cX8_sign : ByteArray := prog_10_method_46_code
def yX8_sign : MethodName := ⟨RX8, "sign", "(I)I"⟩
abbrev cX8_isVariable : ByteArray := prog_10_method_47_code
def yX8_isVariable : MethodName := ⟨RX8, "isVariable", "(I)Z"⟩
abbrev cX8_variable : ByteArray := prog_10_method_48_code
def yX8_variable : MethodName := ⟨RX8, "variable", "(II)I"⟩
abbrev cX8_bound : ByteArray := prog_10_method_49_code
def yX8_bound : MethodName := ⟨RX8, "bound", "(IZII)I"⟩
abbrev cX8_made : ByteArray := prog_10_method_50_code
def yX8_made : MethodName := ⟨RX8, "made", "(III)I"⟩
abbrev cX8_env : ByteArray := prog_10_method_51_code
def yX8_env : MethodName := ⟨RX8, "env", "(IIII)I"⟩
abbrev cX8_halts : ByteArray := prog_10_method_52_code
def yX8_halts : MethodName := ⟨RX8, "halts", "(II)I"⟩
abbrev cX8_does : ByteArray := prog_10_method_53_code
def yX8_does : MethodName := ⟨RX8, "does", "(II)I"⟩
abbrev cX8_doing : ByteArray := prog_10_method_54_code
def yX8_doing : MethodName := ⟨RX8, "doing", "(II)I"⟩
abbrev cX8_seen : ByteArray := prog_10_method_55_code
def yX8_seen : MethodName := ⟨RX8, "seen", "(II)I"⟩
abbrev cX8_work : ByteArray := prog_10_method_56_code
def yX8_work : MethodName := ⟨RX8, "work", "(II)I"⟩
abbrev cX8_tellValue : ByteArray := prog_10_method_57_code
def yX8_tellValue : MethodName := ⟨RX8, "tellValue", "(I)V"⟩
abbrev cX8_value : ByteArray := prog_10_method_58_code
def yX8_value : MethodName := ⟨RX8, "value", "(I)I"⟩
abbrev cX8_worked : ByteArray := prog_10_method_59_code
def yX8_worked : MethodName := ⟨RX8, "worked", "()I"⟩
abbrev cX8_stuck : ByteArray := prog_10_method_60_code
def yX8_stuck : MethodName := ⟨RX8, "stuck", "()I"⟩
abbrev cX8_count : ByteArray := prog_10_method_61_code
def yX8_count : MethodName := ⟨RX8, "count", "(I)I"⟩
abbrev cX8_digest : ByteArray := prog_10_method_62_code
def yX8_digest : MethodName := ⟨RX8, "digest", "()J"⟩
def RJx8e188 : String := "java/lang/Cloneable"
def TJx8e188 : u_T := fun k => match k with
  | _ => ("", "", "", false)
def tyJx8e188 : Nat → FieldType := fun k => match k with
  | _ => .int
abbrev wsJx8e1880 : List Cond := u_ws RJx8e188 TJx8e188 0
theorem nmJx8e188 : ∀ a, a < 0 → ∀ b, b < 0 → a ≠ b → (TJx8e188 a).2.1 ≠ (TJx8e188 b).2.1 := by decide +kernel
theorem tyJx8e188_ok : ∀ k, k < 0 → parseFieldDescriptor (TJx8e188 k).2.2.1 = some (tyJx8e188 k) := by decide +kernel
def RJ9 : String := "java/lang/Math"
def TJ9 : u_T := fun k => match k with
  | _ => ("", "", "", false)
def tyJ9 : Nat → FieldType := fun k => match k with
  | _ => .int
abbrev wsJ90 : List Cond := u_ws RJ9 TJ9 0
theorem nmJ9 : ∀ a, a < 0 → ∀ b, b < 0 → a ≠ b → (TJ9 a).2.1 ≠ (TJ9 b).2.1 := by decide +kernel
theorem tyJ9_ok : ∀ k, k < 0 → parseFieldDescriptor (TJ9 k).2.2.1 = some (tyJ9 k) := by decide +kernel
abbrev cJ9_max_7cf53 : ByteArray := prog_12_method_65_code
def yJ9_max_7cf53 : MethodName := ⟨RJ9, "max", "(II)I"⟩
abbrev cJ9_min_7cf53 : ByteArray := prog_12_method_69_code
def yJ9_min_7cf53 : MethodName := ⟨RJ9, "min", "(II)I"⟩
def RJ10 : String := "java/lang/System"
def TJ10 : u_T := fun k => match k with
  | _ => ("", "", "", false)
def tyJ10 : Nat → FieldType := fun k => match k with
  | _ => .int
abbrev wsJ100 : List Cond := u_ws RJ10 TJ10 0
theorem nmJ10 : ∀ a, a < 0 → ∀ b, b < 0 → a ≠ b → (TJ10 a).2.1 ≠ (TJ10 b).2.1 := by decide +kernel
theorem tyJ10_ok : ∀ k, k < 0 → parseFieldDescriptor (TJ10 k).2.2.1 = some (tyJ10 k) := by decide +kernel
def RJ7 : String := "java/util/Arrays"
def TJ7 : u_T := fun k => match k with
  | _ => ("", "", "", false)
def tyJ7 : Nat → FieldType := fun k => match k with
  | _ => .int
abbrev wsJ70 : List Cond := u_ws RJ7 TJ7 0
theorem nmJ7 : ∀ a, a < 0 → ∀ b, b < 0 → a ≠ b → (TJ7 a).2.1 ≠ (TJ7 b).2.1 := by decide +kernel
theorem tyJ7_ok : ∀ k, k < 0 → parseFieldDescriptor (TJ7 k).2.2.1 = some (tyJ7 k) := by decide +kernel
abbrev cJ7_copyOf_59c91 : ByteArray := prog_14_method_123_code
def yJ7_copyOf_59c91 : MethodName := ⟨RJ7, "copyOf", "([II)[I"⟩
def RL : String := "PolarTypesLaw"
abbrev cL_law : ByteArray := code
def yL_law : MethodName := ⟨RL, "law", "([I)Z"⟩
def wsX0_init : List Cond := .code yX0_init cX0_init 1 none :: ([.methodLink RX0 3 objectInit, .instanceMethod objectInit, .code objectInit ⟨#[0xb1]⟩ 1 none, .arrayClass .int, .fieldLink RX0 9 "PolarTypes$Row" "items" "[I"] ++ wsX00)
def wsJ7_copyOf_59c91 : List Cond := .code yJ7_copyOf_59c91 cJ7_copyOf_59c91 3 (some (.array .int)) :: ([.methodLink RJ7 316 ⟨"[I", "clone", "()Ljava/lang/Object;"⟩, .sameMethod "[I" "java/lang/Object" "clone" "()Ljava/lang/Object;", .native ⟨"java/lang/Object", "clone", "()Ljava/lang/Object;"⟩, .instanceMethod ⟨"java/lang/Object", "clone", "()Ljava/lang/Object;"⟩, .selects "[I" ⟨"[I", "clone", "()Ljava/lang/Object;"⟩ ⟨"java/lang/Object", "clone", "()Ljava/lang/Object;"⟩, .classLink RJ7 317 "[I", .arrayClass .int, .methodLink RJ7 304 Lib.Math.min.name, .static Lib.Math.min.name, .initialized "java/lang/Math", .code Lib.Math.min.name Lib.Math.min.code 2 (some .int), .methodLink RJ7 150 arraycopyName, .native arraycopyName, .static arraycopyName, .initialized "java/lang/System"])
def wsX0_add : List Cond := .code yX0_add cX0_add 2 none :: ([.fieldLink RX0 19 "PolarTypes$Row" "size" "I", .fieldLink RX0 9 "PolarTypes$Row" "items" "[I", .methodLink RX0 23 yJ7_copyOf_59c91, .static yJ7_copyOf_59c91, .initialized RJ7, .code yJ7_copyOf_59c91 cJ7_copyOf_59c91 3 (some (.array .int)), .methodLink RJ7 316 ⟨"[I", "clone", "()Ljava/lang/Object;"⟩, .sameMethod "[I" "java/lang/Object" "clone" "()Ljava/lang/Object;", .native ⟨"java/lang/Object", "clone", "()Ljava/lang/Object;"⟩, .instanceMethod ⟨"java/lang/Object", "clone", "()Ljava/lang/Object;"⟩, .selects "[I" ⟨"[I", "clone", "()Ljava/lang/Object;"⟩ ⟨"java/lang/Object", "clone", "()Ljava/lang/Object;"⟩, .classLink RJ7 317 "[I", .arrayClass .int, .methodLink RJ7 304 Lib.Math.min.name, .static Lib.Math.min.name, .initialized "java/lang/Math", .code Lib.Math.min.name Lib.Math.min.code 2 (some .int), .methodLink RJ7 150 arraycopyName, .native arraycopyName, .static arraycopyName, .initialized "java/lang/System"] ++ wsX00)
def wsX0_init__r1 : List Cond := [Cond.methodLink RX0 3 objectInit, Cond.instanceMethod objectInit, Cond.code objectInit ⟨#[0xb1]⟩ 1 none, Cond.arrayClass .int, Cond.fieldLink RX0 9 "PolarTypes$Row" "items" "[I", Cond.methodLink RX0 15 yX0_add, Cond.instanceMethod yX0_add, Cond.selects RX0 yX0_add yX0_add, Cond.initialized RX0, Cond.code yX0_add cX0_add 2 none, Cond.fieldLink RX0 19 "PolarTypes$Row" "size" "I", Cond.methodLink RX0 23 yJ7_copyOf_59c91, Cond.static yJ7_copyOf_59c91, Cond.initialized RJ7, Cond.code yJ7_copyOf_59c91 cJ7_copyOf_59c91 3 (some (.array .int)), Cond.methodLink RJ7 316 ⟨"[I", "clone", "()Ljava/lang/Object;"⟩, Cond.sameMethod "[I" "java/lang/Object" "clone" "()Ljava/lang/Object;", Cond.native ⟨"java/lang/Object", "clone", "()Ljava/lang/Object;"⟩, Cond.instanceMethod ⟨"java/lang/Object", "clone", "()Ljava/lang/Object;"⟩, Cond.selects "[I" ⟨"[I", "clone", "()Ljava/lang/Object;"⟩ ⟨"java/lang/Object", "clone", "()Ljava/lang/Object;"⟩, Cond.classLink RJ7 317 "[I", Cond.methodLink RJ7 304 Lib.Math.min.name, Cond.static Lib.Math.min.name, Cond.initialized "java/lang/Math"]
def wsX0_init__r2 : List Cond := [Cond.code Lib.Math.min.name Lib.Math.min.code 2 (some .int), Cond.methodLink RJ7 150 arraycopyName, Cond.native arraycopyName, Cond.static arraycopyName, Cond.initialized "java/lang/System"]
def wsX0_init_ : List Cond := .code yX0_init_ cX0_init_ 3 none :: ((wsX0_init__r1 ++ wsX0_init__r2) ++ wsX00)
def wsX0_holds : List Cond := .code yX0_holds cX0_holds 2 (some .boolean) :: ([.fieldLink RX0 19 "PolarTypes$Row" "size" "I"] ++ wsX00)
def wsX0_get : List Cond := .code yX0_get cX0_get 2 (some .int) :: ([.fieldLink RX0 19 "PolarTypes$Row" "size" "I", .fieldLink RX0 9 "PolarTypes$Row" "items" "[I"] ++ wsX00)
def wsX0_cutTo : List Cond := .code yX0_cutTo cX0_cutTo 2 none :: ([.fieldLink RX0 19 "PolarTypes$Row" "size" "I"] ++ wsX00)
def wsX1_init : List Cond := .code yX1_init cX1_init 2 none :: ([.methodLink RX1 3 objectInit, .instanceMethod objectInit, .code objectInit ⟨#[0xb1]⟩ 1 none, .methodLink RX1 9 Lib.Math.max.name, .static Lib.Math.max.name, .initialized "java/lang/Math", .code Lib.Math.max.name Lib.Math.max.code 2 (some .int), .arrayClass .byte, .fieldLink RX1 15 "PolarTypes$Signs" "kept" "[B"] ++ wsX10)
def wsX2_init_r1 : List Cond := [Cond.methodLink RX2 3 objectInit, Cond.instanceMethod objectInit, Cond.code objectInit ⟨#[0xb1]⟩ 1 none, Cond.classLink RX2 9 RX0, Cond.instantiable RX0 2, Cond.initialized RX0, Cond.fieldLink RX2 12 "PolarTypes$Teller" "openTypes" "LPolarTypes$Row;", Cond.fieldLink RX2 18 "PolarTypes$Teller" "openWays" "LPolarTypes$Row;", Cond.fieldLink RX2 21 "PolarTypes$Teller" "openPlaces" "LPolarTypes$Row;", Cond.fieldLink RX2 29 "PolarTypes$Teller" "isOpen" "LPolarTypes$Row;", Cond.classLink RX2 32 RX1, Cond.instantiable RX1 2, Cond.initialized RX1, Cond.fieldLink RX2 35 "PolarTypes$Teller" "signs" "LPolarTypes$Signs;", Cond.fieldLink RX2 39 "PolarTypes$Teller" "types" "LPolarTypes$Types;", Cond.methodLink RX2 11 yX0_init, Cond.instanceMethod yX0_init, Cond.code yX0_init cX0_init 1 none, Cond.methodLink RX0 3 objectInit, Cond.arrayClass .int, Cond.fieldLink RX0 9 "PolarTypes$Row" "items" "[I", Cond.methodLink RX2 26 yX0_init_, Cond.instanceMethod yX0_init_, Cond.code yX0_init_ cX0_init_ 3 none]
def wsX2_init_r2 : List Cond := [Cond.methodLink RX0 15 yX0_add, Cond.instanceMethod yX0_add, Cond.selects RX0 yX0_add yX0_add, Cond.code yX0_add cX0_add 2 none, Cond.fieldLink RX0 19 "PolarTypes$Row" "size" "I", Cond.methodLink RX0 23 yJ7_copyOf_59c91, Cond.static yJ7_copyOf_59c91, Cond.initialized RJ7, Cond.code yJ7_copyOf_59c91 cJ7_copyOf_59c91 3 (some (.array .int)), Cond.methodLink RJ7 316 ⟨"[I", "clone", "()Ljava/lang/Object;"⟩, Cond.sameMethod "[I" "java/lang/Object" "clone" "()Ljava/lang/Object;", Cond.native ⟨"java/lang/Object", "clone", "()Ljava/lang/Object;"⟩, Cond.instanceMethod ⟨"java/lang/Object", "clone", "()Ljava/lang/Object;"⟩, Cond.selects "[I" ⟨"[I", "clone", "()Ljava/lang/Object;"⟩ ⟨"java/lang/Object", "clone", "()Ljava/lang/Object;"⟩, Cond.classLink RJ7 317 "[I", Cond.methodLink RJ7 304 Lib.Math.min.name, Cond.static Lib.Math.min.name, Cond.initialized "java/lang/Math", Cond.code Lib.Math.min.name Lib.Math.min.code 2 (some .int), Cond.methodLink RJ7 150 arraycopyName, Cond.native arraycopyName, Cond.static arraycopyName, Cond.initialized "java/lang/System", Cond.methodLink RX2 34 yX1_init]
def wsX2_init_r3 : List Cond := [Cond.instanceMethod yX1_init, Cond.code yX1_init cX1_init 2 none, Cond.methodLink RX1 3 objectInit, Cond.methodLink RX1 9 Lib.Math.max.name, Cond.static Lib.Math.max.name, Cond.code Lib.Math.max.name Lib.Math.max.code 2 (some .int), Cond.arrayClass .byte, Cond.fieldLink RX1 15 "PolarTypes$Signs" "kept" "[B"]
def wsX2_init : List Cond := .code yX2_init cX2_init 2 none :: ((wsX2_init_r1 ++ (wsX2_init_r2 ++ wsX2_init_r3)) ++ wsX00 ++ wsX20 ++ wsX10)
def wsX3_init : List Cond := .code yX3_init cX3_init 1 none :: ([.methodLink RX3 3 objectInit, .instanceMethod objectInit, .code objectInit ⟨#[0xb1]⟩ 1 none, .classLink RX3 9 RX0, .instantiable RX0 2, .initialized RX0, .fieldLink RX3 12 "PolarTypes$Tree" "kinds" "LPolarTypes$Row;", .fieldLink RX3 18 "PolarTypes$Tree" "marks" "LPolarTypes$Row;", .fieldLink RX3 21 "PolarTypes$Tree" "owners" "LPolarTypes$Row;", .fieldLink RX3 24 "PolarTypes$Tree" "partCounts" "LPolarTypes$Row;", .fieldLink RX3 27 "PolarTypes$Tree" "parts" "LPolarTypes$Row;", .fieldLink RX3 30 "PolarTypes$Tree" "labels" "LPolarTypes$Row;", .methodLink RX3 11 yX0_init, .instanceMethod yX0_init, .code yX0_init cX0_init 1 none, .methodLink RX0 3 objectInit, .arrayClass .int, .fieldLink RX0 9 "PolarTypes$Row" "items" "[I"] ++ wsX00 ++ wsX30)
def wsX3_isKind : List Cond := .code yX3_isKind cX3_isKind 1 (some .boolean) :: ([.fieldLink RX3 33 "PolarTypes$Tree" "PARTS_OF_KIND" "[I"])
def wsX3_isLetter : List Cond := .code yX3_isLetter cX3_isLetter 1 (some .boolean) :: ([])
def wsX3_partsOfKind : List Cond := .code yX3_partsOfKind cX3_partsOfKind 1 (some .int) :: ([.fieldLink RX3 33 "PolarTypes$Tree" "PARTS_OF_KIND" "[I", .methodLink RX3 37 yX3_isKind, .static yX3_isKind, .initialized RX3, .code yX3_isKind cX3_isKind 1 (some .boolean)])
def wsX3_hasLetter : List Cond := .code yX3_hasLetter cX3_hasLetter 1 (some .boolean) :: ([])
def wsX3_isFitting : List Cond := .code yX3_isFitting cX3_isFitting 2 (some .boolean) :: ([.methodLink RX3 41 yX3_hasLetter, .static yX3_hasLetter, .initialized RX3, .code yX3_hasLetter cX3_hasLetter 1 (some .boolean), .methodLink RX3 44 yX3_isLetter, .static yX3_isLetter, .code yX3_isLetter cX3_isLetter 1 (some .boolean)])
def wsX3_size : List Cond := .code yX3_size cX3_size 1 (some .int) :: ([.fieldLink RX3 12 "PolarTypes$Tree" "kinds" "LPolarTypes$Row;", .fieldLink RX3 47 "PolarTypes$Row" "size" "I"] ++ wsX30 ++ wsX00)
def wsX3_isFull : List Cond := .code yX3_isFull cX3_isFull 1 (some .boolean) :: ([.fieldLink RX3 12 "PolarTypes$Tree" "kinds" "LPolarTypes$Row;", .fieldLink RX3 47 "PolarTypes$Row" "size" "I"] ++ wsX30 ++ wsX00)
def wsX3_isNode : List Cond := .code yX3_isNode cX3_isNode 2 (some .boolean) :: ([.fieldLink RX3 12 "PolarTypes$Tree" "kinds" "LPolarTypes$Row;", .methodLink RX3 51 yX0_holds, .instanceMethod yX0_holds, .selects RX0 yX0_holds yX0_holds, .initialized RX0, .code yX0_holds cX0_holds 2 (some .boolean), .fieldLink RX0 19 "PolarTypes$Row" "size" "I"] ++ wsX30 ++ wsX00)
def wsX3_isFree : List Cond := .code yX3_isFree cX3_isFree 2 (some .boolean) :: ([.fieldLink RX3 21 "PolarTypes$Tree" "owners" "LPolarTypes$Row;", .methodLink RX3 54 yX3_isNode, .instanceMethod yX3_isNode, .selects RX3 yX3_isNode yX3_isNode, .initialized RX3, .code yX3_isNode cX3_isNode 2 (some .boolean), .fieldLink RX3 12 "PolarTypes$Tree" "kinds" "LPolarTypes$Row;", .methodLink RX3 51 yX0_holds, .instanceMethod yX0_holds, .selects RX0 yX0_holds yX0_holds, .initialized RX0, .code yX0_holds cX0_holds 2 (some .boolean), .fieldLink RX0 19 "PolarTypes$Row" "size" "I", .methodLink RX3 57 yX0_get, .instanceMethod yX0_get, .selects RX0 yX0_get yX0_get, .code yX0_get cX0_get 2 (some .int), .fieldLink RX0 9 "PolarTypes$Row" "items" "[I"] ++ wsX30 ++ wsX00)
def wsX3_canBeParts : List Cond := .code yX3_canBeParts cX3_canBeParts 5 (some .boolean) :: ([.methodLink RX3 61 yX3_isFree, .instanceMethod yX3_isFree, .selects RX3 yX3_isFree yX3_isFree, .initialized RX3, .code yX3_isFree cX3_isFree 2 (some .boolean), .fieldLink RX3 21 "PolarTypes$Tree" "owners" "LPolarTypes$Row;", .methodLink RX3 54 yX3_isNode, .instanceMethod yX3_isNode, .selects RX3 yX3_isNode yX3_isNode, .code yX3_isNode cX3_isNode 2 (some .boolean), .fieldLink RX3 12 "PolarTypes$Tree" "kinds" "LPolarTypes$Row;", .methodLink RX3 51 yX0_holds, .instanceMethod yX0_holds, .selects RX0 yX0_holds yX0_holds, .initialized RX0, .code yX0_holds cX0_holds 2 (some .boolean), .fieldLink RX0 19 "PolarTypes$Row" "size" "I", .methodLink RX3 57 yX0_get, .instanceMethod yX0_get, .selects RX0 yX0_get yX0_get, .code yX0_get cX0_get 2 (some .int), .fieldLink RX0 9 "PolarTypes$Row" "items" "[I"] ++ wsX30 ++ wsX00)
def wsX3_addNode_r1 : List Cond := [Cond.fieldLink RX3 12 "PolarTypes$Tree" "kinds" "LPolarTypes$Row;", Cond.fieldLink RX3 47 "PolarTypes$Row" "size" "I", Cond.fieldLink RX3 18 "PolarTypes$Tree" "marks" "LPolarTypes$Row;", Cond.fieldLink RX3 21 "PolarTypes$Tree" "owners" "LPolarTypes$Row;", Cond.fieldLink RX3 24 "PolarTypes$Tree" "partCounts" "LPolarTypes$Row;", Cond.fieldLink RX3 27 "PolarTypes$Tree" "parts" "LPolarTypes$Row;", Cond.fieldLink RX3 30 "PolarTypes$Tree" "labels" "LPolarTypes$Row;", Cond.methodLink RX3 41 yX3_hasLetter, Cond.static yX3_hasLetter, Cond.initialized RX3, Cond.code yX3_hasLetter cX3_hasLetter 1 (some .boolean), Cond.methodLink RX3 64 yX0_add, Cond.instanceMethod yX0_add, Cond.selects RX0 yX0_add yX0_add, Cond.initialized RX0, Cond.code yX0_add cX0_add 2 none, Cond.fieldLink RX0 19 "PolarTypes$Row" "size" "I", Cond.fieldLink RX0 9 "PolarTypes$Row" "items" "[I", Cond.methodLink RX0 23 yJ7_copyOf_59c91, Cond.static yJ7_copyOf_59c91, Cond.initialized RJ7, Cond.code yJ7_copyOf_59c91 cJ7_copyOf_59c91 3 (some (.array .int)), Cond.methodLink RJ7 316 ⟨"[I", "clone", "()Ljava/lang/Object;"⟩, Cond.sameMethod "[I" "java/lang/Object" "clone" "()Ljava/lang/Object;"]
def wsX3_addNode_r2 : List Cond := [Cond.native ⟨"java/lang/Object", "clone", "()Ljava/lang/Object;"⟩, Cond.instanceMethod ⟨"java/lang/Object", "clone", "()Ljava/lang/Object;"⟩, Cond.selects "[I" ⟨"[I", "clone", "()Ljava/lang/Object;"⟩ ⟨"java/lang/Object", "clone", "()Ljava/lang/Object;"⟩, Cond.classLink RJ7 317 "[I", Cond.arrayClass .int, Cond.methodLink RJ7 304 Lib.Math.min.name, Cond.static Lib.Math.min.name, Cond.initialized "java/lang/Math", Cond.code Lib.Math.min.name Lib.Math.min.code 2 (some .int), Cond.methodLink RJ7 150 arraycopyName, Cond.native arraycopyName, Cond.static arraycopyName, Cond.initialized "java/lang/System", Cond.methodLink RX3 68 yX3_partsOfKind, Cond.static yX3_partsOfKind, Cond.code yX3_partsOfKind cX3_partsOfKind 1 (some .int), Cond.fieldLink RX3 33 "PolarTypes$Tree" "PARTS_OF_KIND" "[I", Cond.methodLink RX3 37 yX3_isKind, Cond.static yX3_isKind, Cond.code yX3_isKind cX3_isKind 1 (some .boolean), Cond.methodLink RX3 71 yX3_addPart, Cond.instanceMethod yX3_addPart, Cond.selects RX3 yX3_addPart yX3_addPart, Cond.code yX3_addPart cX3_addPart 5 none]
def wsX3_addNode_r3 : List Cond := [Cond.methodLink RX3 75 yX3_partCount, Cond.instanceMethod yX3_partCount, Cond.selects RX3 yX3_partCount yX3_partCount, Cond.code yX3_partCount cX3_partCount 2 (some .int), Cond.methodLink RX3 82 Lib.Math.max.name, Cond.static Lib.Math.max.name, Cond.code Lib.Math.max.name Lib.Math.max.code 2 (some .int), Cond.methodLink RX3 57 yX0_get, Cond.instanceMethod yX0_get, Cond.selects RX0 yX0_get yX0_get, Cond.code yX0_get cX0_get 2 (some .int), Cond.methodLink RX3 78 yX0_set, Cond.instanceMethod yX0_set, Cond.selects RX0 yX0_set yX0_set, Cond.code yX0_set cX0_set 3 none]
def wsX3_addNode : List Cond := .code yX3_addNode cX3_addNode 9 (some .int) :: ((wsX3_addNode_r1 ++ (wsX3_addNode_r2 ++ wsX3_addNode_r3)) ++ wsX30 ++ wsX00)
def wsX3_freeCount_r1 : List Cond := [Cond.methodLink RX3 97 yX3_size, Cond.instanceMethod yX3_size, Cond.selects RX3 yX3_size yX3_size, Cond.initialized RX3, Cond.code yX3_size cX3_size 1 (some .int), Cond.fieldLink RX3 12 "PolarTypes$Tree" "kinds" "LPolarTypes$Row;", Cond.fieldLink RX3 47 "PolarTypes$Row" "size" "I", Cond.methodLink RX3 61 yX3_isFree, Cond.instanceMethod yX3_isFree, Cond.selects RX3 yX3_isFree yX3_isFree, Cond.code yX3_isFree cX3_isFree 2 (some .boolean), Cond.fieldLink RX3 21 "PolarTypes$Tree" "owners" "LPolarTypes$Row;", Cond.methodLink RX3 54 yX3_isNode, Cond.instanceMethod yX3_isNode, Cond.selects RX3 yX3_isNode yX3_isNode, Cond.code yX3_isNode cX3_isNode 2 (some .boolean), Cond.methodLink RX3 51 yX0_holds, Cond.instanceMethod yX0_holds, Cond.selects RX0 yX0_holds yX0_holds, Cond.initialized RX0, Cond.code yX0_holds cX0_holds 2 (some .boolean), Cond.fieldLink RX0 19 "PolarTypes$Row" "size" "I", Cond.methodLink RX3 57 yX0_get, Cond.instanceMethod yX0_get]
def wsX3_freeCount_r2 : List Cond := [Cond.selects RX0 yX0_get yX0_get, Cond.code yX0_get cX0_get 2 (some .int), Cond.fieldLink RX0 9 "PolarTypes$Row" "items" "[I"]
def wsX3_freeCount : List Cond := .code yX3_freeCount cX3_freeCount 4 (some .int) :: ((wsX3_freeCount_r1 ++ wsX3_freeCount_r2) ++ wsX30 ++ wsX00)
def wsX4_addType_r1 : List Cond := [Cond.fieldLink RX4 12 "PolarTypes$Types" "sorts" "LPolarTypes$Row;", Cond.fieldLink RX4 69 "PolarTypes$Row" "size" "I", Cond.fieldLink RX4 18 "PolarTypes$Types" "levels" "LPolarTypes$Row;", Cond.fieldLink RX4 21 "PolarTypes$Types" "firsts" "LPolarTypes$Row;", Cond.fieldLink RX4 24 "PolarTypes$Types" "seconds" "LPolarTypes$Row;", Cond.fieldLink RX4 49 "PolarTypes$Types" "lastAsked" "LPolarTypes$Row;", Cond.methodLink RX4 73 yX0_add, Cond.instanceMethod yX0_add, Cond.selects RX0 yX0_add yX0_add, Cond.initialized RX0, Cond.code yX0_add cX0_add 2 none, Cond.fieldLink RX0 19 "PolarTypes$Row" "size" "I", Cond.fieldLink RX0 9 "PolarTypes$Row" "items" "[I", Cond.methodLink RX0 23 yJ7_copyOf_59c91, Cond.static yJ7_copyOf_59c91, Cond.initialized RJ7, Cond.code yJ7_copyOf_59c91 cJ7_copyOf_59c91 3 (some (.array .int)), Cond.methodLink RJ7 316 ⟨"[I", "clone", "()Ljava/lang/Object;"⟩, Cond.sameMethod "[I" "java/lang/Object" "clone" "()Ljava/lang/Object;", Cond.native ⟨"java/lang/Object", "clone", "()Ljava/lang/Object;"⟩, Cond.instanceMethod ⟨"java/lang/Object", "clone", "()Ljava/lang/Object;"⟩, Cond.selects "[I" ⟨"[I", "clone", "()Ljava/lang/Object;"⟩ ⟨"java/lang/Object", "clone", "()Ljava/lang/Object;"⟩, Cond.classLink RJ7 317 "[I", Cond.arrayClass .int]
def wsX4_addType_r2 : List Cond := [Cond.methodLink RJ7 304 Lib.Math.min.name, Cond.static Lib.Math.min.name, Cond.initialized "java/lang/Math", Cond.code Lib.Math.min.name Lib.Math.min.code 2 (some .int), Cond.methodLink RJ7 150 arraycopyName, Cond.native arraycopyName, Cond.static arraycopyName, Cond.initialized "java/lang/System"]
def wsX4_addType : List Cond := .code yX4_addType cX4_addType 6 (some .int) :: ((wsX4_addType_r1 ++ wsX4_addType_r2) ++ wsX40 ++ wsX00)
def wsX4_startAnew_r1 : List Cond := [Cond.fieldLink RX4 12 "PolarTypes$Types" "sorts" "LPolarTypes$Row;", Cond.fieldLink RX4 18 "PolarTypes$Types" "levels" "LPolarTypes$Row;", Cond.fieldLink RX4 21 "PolarTypes$Types" "firsts" "LPolarTypes$Row;", Cond.fieldLink RX4 24 "PolarTypes$Types" "seconds" "LPolarTypes$Row;", Cond.fieldLink RX4 27 "PolarTypes$Types" "fieldLabels" "LPolarTypes$Row;", Cond.fieldLink RX4 30 "PolarTypes$Types" "fieldParts" "LPolarTypes$Row;", Cond.fieldLink RX4 33 "PolarTypes$Types" "stagedLabels" "LPolarTypes$Row;", Cond.fieldLink RX4 36 "PolarTypes$Types" "stagedParts" "LPolarTypes$Row;", Cond.fieldLink RX4 39 "PolarTypes$Types" "variables" "LPolarTypes$Row;", Cond.fieldLink RX4 49 "PolarTypes$Types" "lastAsked" "LPolarTypes$Row;", Cond.fieldLink RX4 52 "PolarTypes$Types" "askedHighs" "LPolarTypes$Row;", Cond.fieldLink RX4 55 "PolarTypes$Types" "askedAhead" "LPolarTypes$Row;", Cond.methodLink RX4 61 yX0_cutTo, Cond.instanceMethod yX0_cutTo, Cond.selects RX0 yX0_cutTo yX0_cutTo, Cond.initialized RX0, Cond.code yX0_cutTo cX0_cutTo 2 none, Cond.fieldLink RX0 19 "PolarTypes$Row" "size" "I", Cond.methodLink RX4 65 yX4_addType, Cond.instanceMethod yX4_addType, Cond.selects RX4 yX4_addType yX4_addType, Cond.initialized RX4, Cond.code yX4_addType cX4_addType 6 (some .int), Cond.fieldLink RX4 69 "PolarTypes$Row" "size" "I"]
def wsX4_startAnew_r2 : List Cond := [Cond.methodLink RX4 73 yX0_add, Cond.instanceMethod yX0_add, Cond.selects RX0 yX0_add yX0_add, Cond.code yX0_add cX0_add 2 none, Cond.fieldLink RX0 9 "PolarTypes$Row" "items" "[I", Cond.methodLink RX0 23 yJ7_copyOf_59c91, Cond.static yJ7_copyOf_59c91, Cond.initialized RJ7, Cond.code yJ7_copyOf_59c91 cJ7_copyOf_59c91 3 (some (.array .int)), Cond.methodLink RJ7 316 ⟨"[I", "clone", "()Ljava/lang/Object;"⟩, Cond.sameMethod "[I" "java/lang/Object" "clone" "()Ljava/lang/Object;", Cond.native ⟨"java/lang/Object", "clone", "()Ljava/lang/Object;"⟩, Cond.instanceMethod ⟨"java/lang/Object", "clone", "()Ljava/lang/Object;"⟩, Cond.selects "[I" ⟨"[I", "clone", "()Ljava/lang/Object;"⟩ ⟨"java/lang/Object", "clone", "()Ljava/lang/Object;"⟩, Cond.classLink RJ7 317 "[I", Cond.arrayClass .int, Cond.methodLink RJ7 304 Lib.Math.min.name, Cond.static Lib.Math.min.name, Cond.initialized "java/lang/Math", Cond.code Lib.Math.min.name Lib.Math.min.code 2 (some .int), Cond.methodLink RJ7 150 arraycopyName, Cond.native arraycopyName, Cond.static arraycopyName, Cond.initialized "java/lang/System"]
def wsX4_startAnew : List Cond := .code yX4_startAnew cX4_startAnew 1 none :: ((wsX4_startAnew_r1 ++ wsX4_startAnew_r2) ++ wsX40 ++ wsX00)
def wsX4_init_r1 : List Cond := [Cond.methodLink RX4 3 objectInit, Cond.instanceMethod objectInit, Cond.code objectInit ⟨#[0xb1]⟩ 1 none, Cond.classLink RX4 9 RX0, Cond.instantiable RX0 2, Cond.initialized RX0, Cond.fieldLink RX4 12 "PolarTypes$Types" "sorts" "LPolarTypes$Row;", Cond.fieldLink RX4 18 "PolarTypes$Types" "levels" "LPolarTypes$Row;", Cond.fieldLink RX4 21 "PolarTypes$Types" "firsts" "LPolarTypes$Row;", Cond.fieldLink RX4 24 "PolarTypes$Types" "seconds" "LPolarTypes$Row;", Cond.fieldLink RX4 27 "PolarTypes$Types" "fieldLabels" "LPolarTypes$Row;", Cond.fieldLink RX4 30 "PolarTypes$Types" "fieldParts" "LPolarTypes$Row;", Cond.fieldLink RX4 33 "PolarTypes$Types" "stagedLabels" "LPolarTypes$Row;", Cond.fieldLink RX4 36 "PolarTypes$Types" "stagedParts" "LPolarTypes$Row;", Cond.fieldLink RX4 39 "PolarTypes$Types" "variables" "LPolarTypes$Row;", Cond.fieldLink RX4 42 "PolarTypes$Types" "bounds" "[LPolarTypes$Row;", Cond.fieldLink RX4 46 "PolarTypes$Types" "noBounds" "LPolarTypes$Row;", Cond.fieldLink RX4 49 "PolarTypes$Types" "lastAsked" "LPolarTypes$Row;", Cond.fieldLink RX4 52 "PolarTypes$Types" "askedHighs" "LPolarTypes$Row;", Cond.fieldLink RX4 55 "PolarTypes$Types" "askedAhead" "LPolarTypes$Row;", Cond.methodLink RX4 11 yX0_init, Cond.instanceMethod yX0_init, Cond.code yX0_init cX0_init 1 none, Cond.methodLink RX0 3 objectInit]
def wsX4_init_r2 : List Cond := [Cond.arrayClass .int, Cond.fieldLink RX0 9 "PolarTypes$Row" "items" "[I", Cond.methodLink RX4 58 yX4_startAnew, Cond.instanceMethod yX4_startAnew, Cond.selects RX4 yX4_startAnew yX4_startAnew, Cond.initialized RX4, Cond.code yX4_startAnew cX4_startAnew 1 none, Cond.methodLink RX4 61 yX0_cutTo, Cond.instanceMethod yX0_cutTo, Cond.selects RX0 yX0_cutTo yX0_cutTo, Cond.code yX0_cutTo cX0_cutTo 2 none, Cond.fieldLink RX0 19 "PolarTypes$Row" "size" "I", Cond.methodLink RX4 65 yX4_addType, Cond.instanceMethod yX4_addType, Cond.selects RX4 yX4_addType yX4_addType, Cond.code yX4_addType cX4_addType 6 (some .int), Cond.fieldLink RX4 69 "PolarTypes$Row" "size" "I", Cond.methodLink RX4 73 yX0_add, Cond.instanceMethod yX0_add, Cond.selects RX0 yX0_add yX0_add, Cond.code yX0_add cX0_add 2 none, Cond.methodLink RX0 23 yJ7_copyOf_59c91, Cond.static yJ7_copyOf_59c91, Cond.initialized RJ7]
def wsX4_init_r3 : List Cond := [Cond.code yJ7_copyOf_59c91 cJ7_copyOf_59c91 3 (some (.array .int)), Cond.methodLink RJ7 316 ⟨"[I", "clone", "()Ljava/lang/Object;"⟩, Cond.sameMethod "[I" "java/lang/Object" "clone" "()Ljava/lang/Object;", Cond.native ⟨"java/lang/Object", "clone", "()Ljava/lang/Object;"⟩, Cond.instanceMethod ⟨"java/lang/Object", "clone", "()Ljava/lang/Object;"⟩, Cond.selects "[I" ⟨"[I", "clone", "()Ljava/lang/Object;"⟩ ⟨"java/lang/Object", "clone", "()Ljava/lang/Object;"⟩, Cond.classLink RJ7 317 "[I", Cond.methodLink RJ7 304 Lib.Math.min.name, Cond.static Lib.Math.min.name, Cond.initialized "java/lang/Math", Cond.code Lib.Math.min.name Lib.Math.min.code 2 (some .int), Cond.methodLink RJ7 150 arraycopyName, Cond.native arraycopyName, Cond.static arraycopyName, Cond.initialized "java/lang/System"]
def wsX4_init : List Cond := .code yX4_init cX4_init 1 none :: ((wsX4_init_r1 ++ (wsX4_init_r2 ++ wsX4_init_r3)) ++ wsX00 ++ wsX40)
def wsX4_variableCount : List Cond := .code yX4_variableCount cX4_variableCount 1 (some .int) :: ([.fieldLink RX4 39 "PolarTypes$Types" "variables" "LPolarTypes$Row;", .fieldLink RX4 69 "PolarTypes$Row" "size" "I"] ++ wsX40 ++ wsX00)
def wsX4_ofVariable : List Cond := .code yX4_ofVariable cX4_ofVariable 2 (some .int) :: ([.fieldLink RX4 39 "PolarTypes$Types" "variables" "LPolarTypes$Row;", .methodLink RX4 89 yX0_get, .instanceMethod yX0_get, .selects RX0 yX0_get yX0_get, .initialized RX0, .code yX0_get cX0_get 2 (some .int), .fieldLink RX0 19 "PolarTypes$Row" "size" "I", .fieldLink RX0 9 "PolarTypes$Row" "items" "[I"] ++ wsX40 ++ wsX00)
def wsX5_init_r1 : List Cond := [Cond.methodLink RX5 3 objectInit, Cond.instanceMethod objectInit, Cond.code objectInit ⟨#[0xb1]⟩ 1 none, Cond.classLink RX5 9 RX4, Cond.instantiable RX4 14, Cond.initialized RX4, Cond.fieldLink RX5 12 "PolarTypes$Typing" "types" "LPolarTypes$Types;", Cond.classLink RX5 18 RX2, Cond.instantiable RX2 6, Cond.initialized RX2, Cond.fieldLink RX5 23 "PolarTypes$Typing" "teller" "LPolarTypes$Teller;", Cond.classLink RX5 27 RX1, Cond.instantiable RX1 2, Cond.initialized RX1, Cond.fieldLink RX5 32 "PolarTypes$Typing" "signs" "LPolarTypes$Signs;", Cond.classLink RX5 36 RX0, Cond.instantiable RX0 2, Cond.initialized RX0, Cond.fieldLink RX5 41 "PolarTypes$Typing" "givens" "LPolarTypes$Row;", Cond.fieldLink RX5 45 "PolarTypes$Typing" "schemes" "LPolarTypes$Row;", Cond.fieldLink RX5 48 "PolarTypes$Typing" "copies" "LPolarTypes$Row;", Cond.fieldLink RX5 51 "PolarTypes$Typing" "copyTimes" "LPolarTypes$Row;", Cond.fieldLink RX5 54 "PolarTypes$Typing" "top" "I", Cond.fieldLink RX5 58 "PolarTypes$Typing" "place" "I"]
def wsX5_init_r2 : List Cond := [Cond.fieldLink RX5 61 "PolarTypes$Typing" "outcome" "I", Cond.fieldLink RX5 64 "PolarTypes$Typing" "tree" "LPolarTypes$Tree;", Cond.methodLink RX5 11 yX4_init, Cond.instanceMethod yX4_init, Cond.code yX4_init cX4_init 1 none, Cond.methodLink RX4 3 objectInit, Cond.classLink RX4 9 RX0, Cond.fieldLink RX4 12 "PolarTypes$Types" "sorts" "LPolarTypes$Row;", Cond.fieldLink RX4 18 "PolarTypes$Types" "levels" "LPolarTypes$Row;", Cond.fieldLink RX4 21 "PolarTypes$Types" "firsts" "LPolarTypes$Row;", Cond.fieldLink RX4 24 "PolarTypes$Types" "seconds" "LPolarTypes$Row;", Cond.fieldLink RX4 27 "PolarTypes$Types" "fieldLabels" "LPolarTypes$Row;", Cond.fieldLink RX4 30 "PolarTypes$Types" "fieldParts" "LPolarTypes$Row;", Cond.fieldLink RX4 33 "PolarTypes$Types" "stagedLabels" "LPolarTypes$Row;", Cond.fieldLink RX4 36 "PolarTypes$Types" "stagedParts" "LPolarTypes$Row;", Cond.fieldLink RX4 39 "PolarTypes$Types" "variables" "LPolarTypes$Row;", Cond.fieldLink RX4 42 "PolarTypes$Types" "bounds" "[LPolarTypes$Row;", Cond.fieldLink RX4 46 "PolarTypes$Types" "noBounds" "LPolarTypes$Row;", Cond.fieldLink RX4 49 "PolarTypes$Types" "lastAsked" "LPolarTypes$Row;", Cond.fieldLink RX4 52 "PolarTypes$Types" "askedHighs" "LPolarTypes$Row;", Cond.fieldLink RX4 55 "PolarTypes$Types" "askedAhead" "LPolarTypes$Row;", Cond.methodLink RX4 11 yX0_init, Cond.instanceMethod yX0_init, Cond.code yX0_init cX0_init 1 none]
def wsX5_init_r3 : List Cond := [Cond.methodLink RX0 3 objectInit, Cond.arrayClass .int, Cond.fieldLink RX0 9 "PolarTypes$Row" "items" "[I", Cond.methodLink RX4 58 yX4_startAnew, Cond.instanceMethod yX4_startAnew, Cond.selects RX4 yX4_startAnew yX4_startAnew, Cond.code yX4_startAnew cX4_startAnew 1 none, Cond.methodLink RX4 61 yX0_cutTo, Cond.instanceMethod yX0_cutTo, Cond.selects RX0 yX0_cutTo yX0_cutTo, Cond.code yX0_cutTo cX0_cutTo 2 none, Cond.fieldLink RX0 19 "PolarTypes$Row" "size" "I", Cond.methodLink RX4 65 yX4_addType, Cond.instanceMethod yX4_addType, Cond.selects RX4 yX4_addType yX4_addType, Cond.code yX4_addType cX4_addType 6 (some .int), Cond.fieldLink RX4 69 "PolarTypes$Row" "size" "I", Cond.methodLink RX4 73 yX0_add, Cond.instanceMethod yX0_add, Cond.selects RX0 yX0_add yX0_add, Cond.code yX0_add cX0_add 2 none, Cond.methodLink RX0 23 yJ7_copyOf_59c91, Cond.static yJ7_copyOf_59c91, Cond.initialized RJ7]
def wsX5_init_r4 : List Cond := [Cond.code yJ7_copyOf_59c91 cJ7_copyOf_59c91 3 (some (.array .int)), Cond.methodLink RJ7 316 ⟨"[I", "clone", "()Ljava/lang/Object;"⟩, Cond.sameMethod "[I" "java/lang/Object" "clone" "()Ljava/lang/Object;", Cond.native ⟨"java/lang/Object", "clone", "()Ljava/lang/Object;"⟩, Cond.instanceMethod ⟨"java/lang/Object", "clone", "()Ljava/lang/Object;"⟩, Cond.selects "[I" ⟨"[I", "clone", "()Ljava/lang/Object;"⟩ ⟨"java/lang/Object", "clone", "()Ljava/lang/Object;"⟩, Cond.classLink RJ7 317 "[I", Cond.methodLink RJ7 304 Lib.Math.min.name, Cond.static Lib.Math.min.name, Cond.initialized "java/lang/Math", Cond.code Lib.Math.min.name Lib.Math.min.code 2 (some .int), Cond.methodLink RJ7 150 arraycopyName, Cond.native arraycopyName, Cond.static arraycopyName, Cond.initialized "java/lang/System", Cond.methodLink RX5 20 yX2_init, Cond.instanceMethod yX2_init, Cond.code yX2_init cX2_init 2 none, Cond.methodLink RX2 3 objectInit, Cond.classLink RX2 9 RX0, Cond.fieldLink RX2 12 "PolarTypes$Teller" "openTypes" "LPolarTypes$Row;", Cond.fieldLink RX2 18 "PolarTypes$Teller" "openWays" "LPolarTypes$Row;", Cond.fieldLink RX2 21 "PolarTypes$Teller" "openPlaces" "LPolarTypes$Row;", Cond.fieldLink RX2 29 "PolarTypes$Teller" "isOpen" "LPolarTypes$Row;"]
def wsX5_init_r5 : List Cond := [Cond.classLink RX2 32 RX1, Cond.fieldLink RX2 35 "PolarTypes$Teller" "signs" "LPolarTypes$Signs;", Cond.fieldLink RX2 39 "PolarTypes$Teller" "types" "LPolarTypes$Types;", Cond.methodLink RX2 11 yX0_init, Cond.methodLink RX2 26 yX0_init_, Cond.instanceMethod yX0_init_, Cond.code yX0_init_ cX0_init_ 3 none, Cond.methodLink RX0 15 yX0_add, Cond.methodLink RX2 34 yX1_init, Cond.instanceMethod yX1_init, Cond.code yX1_init cX1_init 2 none, Cond.methodLink RX1 3 objectInit, Cond.methodLink RX1 9 Lib.Math.max.name, Cond.static Lib.Math.max.name, Cond.code Lib.Math.max.name Lib.Math.max.code 2 (some .int), Cond.arrayClass .byte, Cond.fieldLink RX1 15 "PolarTypes$Signs" "kept" "[B", Cond.methodLink RX5 29 yX1_init, Cond.methodLink RX5 40 yX0_init_]
def wsX5_init : List Cond := .code yX5_init cX5_init 2 none :: ((wsX5_init_r1 ++ (wsX5_init_r2 ++ (wsX5_init_r3 ++ (wsX5_init_r4 ++ wsX5_init_r5)))) ++ wsX40 ++ wsX50 ++ wsX20 ++ wsX10 ++ wsX00)
def wsX6_init_r1 : List Cond := [Cond.methodLink RX6 3 objectInit, Cond.instanceMethod objectInit, Cond.code objectInit ⟨#[0xb1]⟩ 1 none, Cond.classLink RX6 9 RX1, Cond.instantiable RX1 2, Cond.initialized RX1, Cond.fieldLink RX6 16 "PolarTypes$Working" "signs" "LPolarTypes$Signs;", Cond.classLink RX6 20 RX0, Cond.instantiable RX0 2, Cond.initialized RX0, Cond.fieldLink RX6 23 "PolarTypes$Working" "sorts" "LPolarTypes$Row;", Cond.fieldLink RX6 27 "PolarTypes$Working" "cores" "LPolarTypes$Row;", Cond.fieldLink RX6 30 "PolarTypes$Working" "links" "LPolarTypes$Row;", Cond.fieldLink RX6 33 "PolarTypes$Working" "fieldValues" "LPolarTypes$Row;", Cond.fieldLink RX6 36 "PolarTypes$Working" "sightLetters" "LPolarTypes$Row;", Cond.fieldLink RX6 39 "PolarTypes$Working" "sightValues" "LPolarTypes$Row;", Cond.fieldLink RX6 42 "PolarTypes$Working" "sightRecs" "LPolarTypes$Row;", Cond.fieldLink RX6 45 "PolarTypes$Working" "sightNexts" "LPolarTypes$Row;", Cond.fieldLink RX6 48 "PolarTypes$Working" "place" "I", Cond.fieldLink RX6 52 "PolarTypes$Working" "outcome" "I", Cond.fieldLink RX6 55 "PolarTypes$Working" "tree" "LPolarTypes$Tree;", Cond.methodLink RX6 13 yX1_init, Cond.instanceMethod yX1_init, Cond.code yX1_init cX1_init 2 none]
def wsX6_init_r2 : List Cond := [Cond.methodLink RX1 3 objectInit, Cond.methodLink RX1 9 Lib.Math.max.name, Cond.static Lib.Math.max.name, Cond.initialized "java/lang/Math", Cond.code Lib.Math.max.name Lib.Math.max.code 2 (some .int), Cond.arrayClass .byte, Cond.fieldLink RX1 15 "PolarTypes$Signs" "kept" "[B", Cond.methodLink RX6 22 yX0_init, Cond.instanceMethod yX0_init, Cond.code yX0_init cX0_init 1 none, Cond.methodLink RX0 3 objectInit, Cond.arrayClass .int, Cond.fieldLink RX0 9 "PolarTypes$Row" "items" "[I"]
def wsX6_init : List Cond := .code yX6_init cX6_init 2 none :: ((wsX6_init_r1 ++ wsX6_init_r2) ++ wsX10 ++ wsX60 ++ wsX00)
def wsX7_init_r1 : List Cond := [Cond.methodLink RX7 3 objectInit, Cond.instanceMethod objectInit, Cond.code objectInit ⟨#[0xb1]⟩ 1 none, Cond.classLink RX7 9 RX3, Cond.instantiable RX3 6, Cond.initialized RX3, Cond.fieldLink RX7 12 "PolarTypes" "tree" "LPolarTypes$Tree;", Cond.classLink RX7 16 RX5, Cond.instantiable RX5 15, Cond.initialized RX5, Cond.fieldLink RX7 21 "PolarTypes" "typing" "LPolarTypes$Typing;", Cond.classLink RX7 25 RX6, Cond.instantiable RX6 14, Cond.initialized RX6, Cond.fieldLink RX7 28 "PolarTypes" "working" "LPolarTypes$Working;", Cond.classLink RX7 32 RX1, Cond.instantiable RX1 2, Cond.initialized RX1, Cond.fieldLink RX7 39 "PolarTypes" "boundSigns" "LPolarTypes$Signs;", Cond.instanceMethod yX3_init, Cond.code yX3_init cX3_init 1 none, Cond.methodLink RX3 3 objectInit, Cond.classLink RX3 9 RX0, Cond.instantiable RX0 2]
def wsX7_init_r2 : List Cond := [Cond.initialized RX0, Cond.fieldLink RX3 12 "PolarTypes$Tree" "kinds" "LPolarTypes$Row;", Cond.fieldLink RX3 18 "PolarTypes$Tree" "marks" "LPolarTypes$Row;", Cond.fieldLink RX3 21 "PolarTypes$Tree" "owners" "LPolarTypes$Row;", Cond.fieldLink RX3 24 "PolarTypes$Tree" "partCounts" "LPolarTypes$Row;", Cond.fieldLink RX3 27 "PolarTypes$Tree" "parts" "LPolarTypes$Row;", Cond.fieldLink RX3 30 "PolarTypes$Tree" "labels" "LPolarTypes$Row;", Cond.methodLink RX3 11 yX0_init, Cond.instanceMethod yX0_init, Cond.code yX0_init cX0_init 1 none, Cond.methodLink RX0 3 objectInit, Cond.arrayClass .int, Cond.fieldLink RX0 9 "PolarTypes$Row" "items" "[I", Cond.methodLink RX7 18 yX5_init, Cond.instanceMethod yX5_init, Cond.code yX5_init cX5_init 2 none, Cond.methodLink RX5 3 objectInit, Cond.classLink RX5 9 RX4, Cond.instantiable RX4 14, Cond.initialized RX4, Cond.fieldLink RX5 12 "PolarTypes$Typing" "types" "LPolarTypes$Types;", Cond.classLink RX5 18 RX2, Cond.instantiable RX2 6, Cond.initialized RX2]
def wsX7_init_r3 : List Cond := [Cond.fieldLink RX5 23 "PolarTypes$Typing" "teller" "LPolarTypes$Teller;", Cond.classLink RX5 27 RX1, Cond.fieldLink RX5 32 "PolarTypes$Typing" "signs" "LPolarTypes$Signs;", Cond.classLink RX5 36 RX0, Cond.fieldLink RX5 41 "PolarTypes$Typing" "givens" "LPolarTypes$Row;", Cond.fieldLink RX5 45 "PolarTypes$Typing" "schemes" "LPolarTypes$Row;", Cond.fieldLink RX5 48 "PolarTypes$Typing" "copies" "LPolarTypes$Row;", Cond.fieldLink RX5 51 "PolarTypes$Typing" "copyTimes" "LPolarTypes$Row;", Cond.fieldLink RX5 54 "PolarTypes$Typing" "top" "I", Cond.fieldLink RX5 58 "PolarTypes$Typing" "place" "I", Cond.fieldLink RX5 61 "PolarTypes$Typing" "outcome" "I", Cond.fieldLink RX5 64 "PolarTypes$Typing" "tree" "LPolarTypes$Tree;", Cond.methodLink RX5 11 yX4_init, Cond.instanceMethod yX4_init, Cond.code yX4_init cX4_init 1 none, Cond.methodLink RX4 3 objectInit, Cond.classLink RX4 9 RX0, Cond.fieldLink RX4 12 "PolarTypes$Types" "sorts" "LPolarTypes$Row;", Cond.fieldLink RX4 18 "PolarTypes$Types" "levels" "LPolarTypes$Row;", Cond.fieldLink RX4 21 "PolarTypes$Types" "firsts" "LPolarTypes$Row;", Cond.fieldLink RX4 24 "PolarTypes$Types" "seconds" "LPolarTypes$Row;", Cond.fieldLink RX4 27 "PolarTypes$Types" "fieldLabels" "LPolarTypes$Row;", Cond.fieldLink RX4 30 "PolarTypes$Types" "fieldParts" "LPolarTypes$Row;", Cond.fieldLink RX4 33 "PolarTypes$Types" "stagedLabels" "LPolarTypes$Row;"]
def wsX7_init_r4 : List Cond := [Cond.fieldLink RX4 36 "PolarTypes$Types" "stagedParts" "LPolarTypes$Row;", Cond.fieldLink RX4 39 "PolarTypes$Types" "variables" "LPolarTypes$Row;", Cond.fieldLink RX4 42 "PolarTypes$Types" "bounds" "[LPolarTypes$Row;", Cond.fieldLink RX4 46 "PolarTypes$Types" "noBounds" "LPolarTypes$Row;", Cond.fieldLink RX4 49 "PolarTypes$Types" "lastAsked" "LPolarTypes$Row;", Cond.fieldLink RX4 52 "PolarTypes$Types" "askedHighs" "LPolarTypes$Row;", Cond.fieldLink RX4 55 "PolarTypes$Types" "askedAhead" "LPolarTypes$Row;", Cond.methodLink RX4 11 yX0_init, Cond.methodLink RX4 58 yX4_startAnew, Cond.instanceMethod yX4_startAnew, Cond.selects RX4 yX4_startAnew yX4_startAnew, Cond.code yX4_startAnew cX4_startAnew 1 none, Cond.methodLink RX4 61 yX0_cutTo, Cond.instanceMethod yX0_cutTo, Cond.selects RX0 yX0_cutTo yX0_cutTo, Cond.code yX0_cutTo cX0_cutTo 2 none, Cond.fieldLink RX0 19 "PolarTypes$Row" "size" "I", Cond.methodLink RX4 65 yX4_addType, Cond.instanceMethod yX4_addType, Cond.selects RX4 yX4_addType yX4_addType, Cond.code yX4_addType cX4_addType 6 (some .int), Cond.fieldLink RX4 69 "PolarTypes$Row" "size" "I", Cond.methodLink RX4 73 yX0_add, Cond.instanceMethod yX0_add]
def wsX7_init_r5 : List Cond := [Cond.selects RX0 yX0_add yX0_add, Cond.code yX0_add cX0_add 2 none, Cond.methodLink RX0 23 yJ7_copyOf_59c91, Cond.static yJ7_copyOf_59c91, Cond.initialized RJ7, Cond.code yJ7_copyOf_59c91 cJ7_copyOf_59c91 3 (some (.array .int)), Cond.methodLink RJ7 316 ⟨"[I", "clone", "()Ljava/lang/Object;"⟩, Cond.sameMethod "[I" "java/lang/Object" "clone" "()Ljava/lang/Object;", Cond.native ⟨"java/lang/Object", "clone", "()Ljava/lang/Object;"⟩, Cond.instanceMethod ⟨"java/lang/Object", "clone", "()Ljava/lang/Object;"⟩, Cond.selects "[I" ⟨"[I", "clone", "()Ljava/lang/Object;"⟩ ⟨"java/lang/Object", "clone", "()Ljava/lang/Object;"⟩, Cond.classLink RJ7 317 "[I", Cond.methodLink RJ7 304 Lib.Math.min.name, Cond.static Lib.Math.min.name, Cond.initialized "java/lang/Math", Cond.code Lib.Math.min.name Lib.Math.min.code 2 (some .int), Cond.methodLink RJ7 150 arraycopyName, Cond.native arraycopyName, Cond.static arraycopyName, Cond.initialized "java/lang/System", Cond.methodLink RX5 20 yX2_init, Cond.instanceMethod yX2_init, Cond.code yX2_init cX2_init 2 none, Cond.methodLink RX2 3 objectInit]
def wsX7_init_r6 : List Cond := [Cond.classLink RX2 9 RX0, Cond.fieldLink RX2 12 "PolarTypes$Teller" "openTypes" "LPolarTypes$Row;", Cond.fieldLink RX2 18 "PolarTypes$Teller" "openWays" "LPolarTypes$Row;", Cond.fieldLink RX2 21 "PolarTypes$Teller" "openPlaces" "LPolarTypes$Row;", Cond.fieldLink RX2 29 "PolarTypes$Teller" "isOpen" "LPolarTypes$Row;", Cond.classLink RX2 32 RX1, Cond.fieldLink RX2 35 "PolarTypes$Teller" "signs" "LPolarTypes$Signs;", Cond.fieldLink RX2 39 "PolarTypes$Teller" "types" "LPolarTypes$Types;", Cond.methodLink RX2 11 yX0_init, Cond.methodLink RX2 26 yX0_init_, Cond.instanceMethod yX0_init_, Cond.code yX0_init_ cX0_init_ 3 none, Cond.methodLink RX0 15 yX0_add, Cond.methodLink RX2 34 yX1_init, Cond.instanceMethod yX1_init, Cond.code yX1_init cX1_init 2 none, Cond.methodLink RX1 3 objectInit, Cond.methodLink RX1 9 Lib.Math.max.name, Cond.static Lib.Math.max.name, Cond.code Lib.Math.max.name Lib.Math.max.code 2 (some .int), Cond.arrayClass .byte, Cond.fieldLink RX1 15 "PolarTypes$Signs" "kept" "[B", Cond.methodLink RX5 29 yX1_init, Cond.methodLink RX5 40 yX0_init_]
def wsX7_init_r7 : List Cond := [Cond.methodLink RX7 27 yX6_init, Cond.instanceMethod yX6_init, Cond.code yX6_init cX6_init 2 none, Cond.methodLink RX6 3 objectInit, Cond.classLink RX6 9 RX1, Cond.fieldLink RX6 16 "PolarTypes$Working" "signs" "LPolarTypes$Signs;", Cond.classLink RX6 20 RX0, Cond.fieldLink RX6 23 "PolarTypes$Working" "sorts" "LPolarTypes$Row;", Cond.fieldLink RX6 27 "PolarTypes$Working" "cores" "LPolarTypes$Row;", Cond.fieldLink RX6 30 "PolarTypes$Working" "links" "LPolarTypes$Row;", Cond.fieldLink RX6 33 "PolarTypes$Working" "fieldValues" "LPolarTypes$Row;", Cond.fieldLink RX6 36 "PolarTypes$Working" "sightLetters" "LPolarTypes$Row;", Cond.fieldLink RX6 39 "PolarTypes$Working" "sightValues" "LPolarTypes$Row;", Cond.fieldLink RX6 42 "PolarTypes$Working" "sightRecs" "LPolarTypes$Row;", Cond.fieldLink RX6 45 "PolarTypes$Working" "sightNexts" "LPolarTypes$Row;", Cond.fieldLink RX6 48 "PolarTypes$Working" "place" "I", Cond.fieldLink RX6 52 "PolarTypes$Working" "outcome" "I", Cond.fieldLink RX6 55 "PolarTypes$Working" "tree" "LPolarTypes$Tree;", Cond.methodLink RX6 13 yX1_init, Cond.methodLink RX6 22 yX0_init, Cond.methodLink RX7 36 yX1_init]
def wsX7_init : List Cond := .code yX7_init cX7_init 1 none :: ((wsX7_init_r1 ++ (wsX7_init_r2 ++ (wsX7_init_r3 ++ (wsX7_init_r4 ++ (wsX7_init_r5 ++ (wsX7_init_r6 ++ wsX7_init_r7)))))) ++ wsX30 ++ wsX70 ++ wsX50 ++ wsX60 ++ wsX10 ++ wsX00 ++ wsX40 ++ wsX20)
def wsX7_node_r1 : List Cond := [Cond.fieldLink RX7 12 "PolarTypes" "tree" "LPolarTypes$Tree;", Cond.methodLink RX7 43 yX3_isKind, Cond.static yX3_isKind, Cond.initialized RX3, Cond.code yX3_isKind cX3_isKind 1 (some .boolean), Cond.fieldLink RX3 33 "PolarTypes$Tree" "PARTS_OF_KIND" "[I", Cond.methodLink RX7 47 yX3_isFitting, Cond.static yX3_isFitting, Cond.code yX3_isFitting cX3_isFitting 2 (some .boolean), Cond.methodLink RX3 41 yX3_hasLetter, Cond.static yX3_hasLetter, Cond.code yX3_hasLetter cX3_hasLetter 1 (some .boolean), Cond.methodLink RX3 44 yX3_isLetter, Cond.static yX3_isLetter, Cond.code yX3_isLetter cX3_isLetter 1 (some .boolean), Cond.methodLink RX7 51 yX3_partsOfKind, Cond.static yX3_partsOfKind, Cond.code yX3_partsOfKind cX3_partsOfKind 1 (some .int), Cond.methodLink RX3 37 yX3_isKind, Cond.methodLink RX7 55 yX3_canBeParts, Cond.instanceMethod yX3_canBeParts, Cond.selects RX3 yX3_canBeParts yX3_canBeParts, Cond.code yX3_canBeParts cX3_canBeParts 5 (some .boolean), Cond.methodLink RX3 61 yX3_isFree]
def wsX7_node_r2 : List Cond := [Cond.instanceMethod yX3_isFree, Cond.selects RX3 yX3_isFree yX3_isFree, Cond.code yX3_isFree cX3_isFree 2 (some .boolean), Cond.fieldLink RX3 21 "PolarTypes$Tree" "owners" "LPolarTypes$Row;", Cond.methodLink RX3 54 yX3_isNode, Cond.instanceMethod yX3_isNode, Cond.selects RX3 yX3_isNode yX3_isNode, Cond.code yX3_isNode cX3_isNode 2 (some .boolean), Cond.fieldLink RX3 12 "PolarTypes$Tree" "kinds" "LPolarTypes$Row;", Cond.methodLink RX3 51 yX0_holds, Cond.instanceMethod yX0_holds, Cond.selects RX0 yX0_holds yX0_holds, Cond.initialized RX0, Cond.code yX0_holds cX0_holds 2 (some .boolean), Cond.fieldLink RX0 19 "PolarTypes$Row" "size" "I", Cond.methodLink RX3 57 yX0_get, Cond.instanceMethod yX0_get, Cond.selects RX0 yX0_get yX0_get, Cond.code yX0_get cX0_get 2 (some .int), Cond.fieldLink RX0 9 "PolarTypes$Row" "items" "[I", Cond.methodLink RX7 59 yX3_isFull, Cond.instanceMethod yX3_isFull, Cond.selects RX3 yX3_isFull yX3_isFull, Cond.code yX3_isFull cX3_isFull 1 (some .boolean)]
def wsX7_node_r3 : List Cond := [Cond.fieldLink RX3 47 "PolarTypes$Row" "size" "I", Cond.methodLink RX7 63 yX3_addNode, Cond.instanceMethod yX3_addNode, Cond.selects RX3 yX3_addNode yX3_addNode, Cond.code yX3_addNode cX3_addNode 9 (some .int), Cond.fieldLink RX3 18 "PolarTypes$Tree" "marks" "LPolarTypes$Row;", Cond.fieldLink RX3 24 "PolarTypes$Tree" "partCounts" "LPolarTypes$Row;", Cond.fieldLink RX3 27 "PolarTypes$Tree" "parts" "LPolarTypes$Row;", Cond.fieldLink RX3 30 "PolarTypes$Tree" "labels" "LPolarTypes$Row;", Cond.methodLink RX3 64 yX0_add, Cond.instanceMethod yX0_add, Cond.selects RX0 yX0_add yX0_add, Cond.code yX0_add cX0_add 2 none, Cond.methodLink RX0 23 yJ7_copyOf_59c91, Cond.static yJ7_copyOf_59c91, Cond.initialized RJ7, Cond.code yJ7_copyOf_59c91 cJ7_copyOf_59c91 3 (some (.array .int)), Cond.methodLink RJ7 316 ⟨"[I", "clone", "()Ljava/lang/Object;"⟩, Cond.sameMethod "[I" "java/lang/Object" "clone" "()Ljava/lang/Object;", Cond.native ⟨"java/lang/Object", "clone", "()Ljava/lang/Object;"⟩, Cond.instanceMethod ⟨"java/lang/Object", "clone", "()Ljava/lang/Object;"⟩, Cond.selects "[I" ⟨"[I", "clone", "()Ljava/lang/Object;"⟩ ⟨"java/lang/Object", "clone", "()Ljava/lang/Object;"⟩, Cond.classLink RJ7 317 "[I", Cond.arrayClass .int]
def wsX7_node_r4 : List Cond := [Cond.methodLink RJ7 304 Lib.Math.min.name, Cond.static Lib.Math.min.name, Cond.initialized "java/lang/Math", Cond.code Lib.Math.min.name Lib.Math.min.code 2 (some .int), Cond.methodLink RJ7 150 arraycopyName, Cond.native arraycopyName, Cond.static arraycopyName, Cond.initialized "java/lang/System", Cond.methodLink RX3 68 yX3_partsOfKind, Cond.methodLink RX3 71 yX3_addPart, Cond.instanceMethod yX3_addPart, Cond.selects RX3 yX3_addPart yX3_addPart, Cond.code yX3_addPart cX3_addPart 5 none, Cond.methodLink RX3 75 yX3_partCount, Cond.instanceMethod yX3_partCount, Cond.selects RX3 yX3_partCount yX3_partCount, Cond.code yX3_partCount cX3_partCount 2 (some .int), Cond.methodLink RX3 82 Lib.Math.max.name, Cond.static Lib.Math.max.name, Cond.code Lib.Math.max.name Lib.Math.max.code 2 (some .int), Cond.methodLink RX3 78 yX0_set, Cond.instanceMethod yX0_set, Cond.selects RX0 yX0_set yX0_set, Cond.code yX0_set cX0_set 3 none]
def wsX7_node : List Cond := .code yX7_node cX7_node 6 (some .int) :: ((wsX7_node_r1 ++ (wsX7_node_r2 ++ (wsX7_node_r3 ++ wsX7_node_r4))) ++ wsX70 ++ wsX30 ++ wsX00)
def wsX7_field_r1 : List Cond := [Cond.fieldLink RX7 12 "PolarTypes" "tree" "LPolarTypes$Tree;", Cond.fieldLink RX7 21 "PolarTypes" "typing" "LPolarTypes$Typing;", Cond.methodLink RX7 67 yX3_isNode, Cond.instanceMethod yX3_isNode, Cond.selects RX3 yX3_isNode yX3_isNode, Cond.initialized RX3, Cond.code yX3_isNode cX3_isNode 2 (some .boolean), Cond.fieldLink RX3 12 "PolarTypes$Tree" "kinds" "LPolarTypes$Row;", Cond.methodLink RX3 51 yX0_holds, Cond.instanceMethod yX0_holds, Cond.selects RX0 yX0_holds yX0_holds, Cond.initialized RX0, Cond.code yX0_holds cX0_holds 2 (some .boolean), Cond.fieldLink RX0 19 "PolarTypes$Row" "size" "I", Cond.methodLink RX7 70 yX3_isLetter, Cond.static yX3_isLetter, Cond.code yX3_isLetter cX3_isLetter 1 (some .boolean), Cond.methodLink RX7 73 yX3_isFree, Cond.instanceMethod yX3_isFree, Cond.selects RX3 yX3_isFree yX3_isFree, Cond.code yX3_isFree cX3_isFree 2 (some .boolean), Cond.fieldLink RX3 21 "PolarTypes$Tree" "owners" "LPolarTypes$Row;", Cond.methodLink RX3 54 yX3_isNode, Cond.methodLink RX3 57 yX0_get]
def wsX7_field_r2 : List Cond := [Cond.instanceMethod yX0_get, Cond.selects RX0 yX0_get yX0_get, Cond.code yX0_get cX0_get 2 (some .int), Cond.fieldLink RX0 9 "PolarTypes$Row" "items" "[I", Cond.methodLink RX7 76 yX3_topOf, Cond.instanceMethod yX3_topOf, Cond.selects RX3 yX3_topOf yX3_topOf, Cond.code yX3_topOf cX3_topOf 4 (some .int), Cond.methodLink RX3 94 yX3_ownerOf, Cond.instanceMethod yX3_ownerOf, Cond.selects RX3 yX3_ownerOf yX3_ownerOf, Cond.code yX3_ownerOf cX3_ownerOf 2 (some .int), Cond.methodLink RX7 79 yX3_kindOf, Cond.instanceMethod yX3_kindOf, Cond.selects RX3 yX3_kindOf yX3_kindOf, Cond.code yX3_kindOf cX3_kindOf 2 (some .int), Cond.methodLink RX7 82 yX3_hasLabel, Cond.instanceMethod yX3_hasLabel, Cond.selects RX3 yX3_hasLabel yX3_hasLabel, Cond.code yX3_hasLabel cX3_hasLabel 3 (some .boolean), Cond.methodLink RX3 88 yX3_placeOf, Cond.instanceMethod yX3_placeOf, Cond.selects RX3 yX3_placeOf yX3_placeOf, Cond.code yX3_placeOf cX3_placeOf 5 (some .int)]
def wsX7_field_r3 : List Cond := [Cond.methodLink RX3 75 yX3_partCount, Cond.instanceMethod yX3_partCount, Cond.selects RX3 yX3_partCount yX3_partCount, Cond.code yX3_partCount cX3_partCount 2 (some .int), Cond.fieldLink RX3 24 "PolarTypes$Tree" "partCounts" "LPolarTypes$Row;", Cond.methodLink RX3 82 Lib.Math.max.name, Cond.static Lib.Math.max.name, Cond.initialized "java/lang/Math", Cond.code Lib.Math.max.name Lib.Math.max.code 2 (some .int), Cond.methodLink RX3 91 yX3_labelOf, Cond.instanceMethod yX3_labelOf, Cond.selects RX3 yX3_labelOf yX3_labelOf, Cond.code yX3_labelOf cX3_labelOf 3 (some .int), Cond.fieldLink RX3 30 "PolarTypes$Tree" "labels" "LPolarTypes$Row;", Cond.methodLink RX7 85 yX3_partCount, Cond.methodLink RX7 88 yX3_addPart, Cond.instanceMethod yX3_addPart, Cond.selects RX3 yX3_addPart yX3_addPart, Cond.code yX3_addPart cX3_addPart 5 none, Cond.fieldLink RX3 27 "PolarTypes$Tree" "parts" "LPolarTypes$Row;", Cond.methodLink RX3 78 yX0_set, Cond.instanceMethod yX0_set, Cond.selects RX0 yX0_set yX0_set, Cond.code yX0_set cX0_set 3 none]
def wsX7_field_r4 : List Cond := [Cond.methodLink RX7 92 yX5_forget, Cond.instanceMethod yX5_forget, Cond.selects RX5 yX5_forget yX5_forget, Cond.initialized RX5, Cond.code yX5_forget cX5_forget 1 none, Cond.fieldLink RX5 12 "PolarTypes$Typing" "types" "LPolarTypes$Types;", Cond.fieldLink RX5 71 "PolarTypes$Typing" "asked" "I", Cond.fieldLink RX5 58 "PolarTypes$Typing" "place" "I", Cond.fieldLink RX5 61 "PolarTypes$Typing" "outcome" "I", Cond.methodLink RX5 68 yX4_startAnew, Cond.instanceMethod yX4_startAnew, Cond.selects RX4 yX4_startAnew yX4_startAnew, Cond.initialized RX4, Cond.code yX4_startAnew cX4_startAnew 1 none, Cond.fieldLink RX4 12 "PolarTypes$Types" "sorts" "LPolarTypes$Row;", Cond.fieldLink RX4 18 "PolarTypes$Types" "levels" "LPolarTypes$Row;", Cond.fieldLink RX4 21 "PolarTypes$Types" "firsts" "LPolarTypes$Row;", Cond.fieldLink RX4 24 "PolarTypes$Types" "seconds" "LPolarTypes$Row;", Cond.fieldLink RX4 27 "PolarTypes$Types" "fieldLabels" "LPolarTypes$Row;", Cond.fieldLink RX4 30 "PolarTypes$Types" "fieldParts" "LPolarTypes$Row;", Cond.fieldLink RX4 33 "PolarTypes$Types" "stagedLabels" "LPolarTypes$Row;", Cond.fieldLink RX4 36 "PolarTypes$Types" "stagedParts" "LPolarTypes$Row;", Cond.fieldLink RX4 39 "PolarTypes$Types" "variables" "LPolarTypes$Row;", Cond.fieldLink RX4 49 "PolarTypes$Types" "lastAsked" "LPolarTypes$Row;"]
def wsX7_field_r5 : List Cond := [Cond.fieldLink RX4 52 "PolarTypes$Types" "askedHighs" "LPolarTypes$Row;", Cond.fieldLink RX4 55 "PolarTypes$Types" "askedAhead" "LPolarTypes$Row;", Cond.methodLink RX4 61 yX0_cutTo, Cond.instanceMethod yX0_cutTo, Cond.selects RX0 yX0_cutTo yX0_cutTo, Cond.code yX0_cutTo cX0_cutTo 2 none, Cond.methodLink RX4 65 yX4_addType, Cond.instanceMethod yX4_addType, Cond.selects RX4 yX4_addType yX4_addType, Cond.code yX4_addType cX4_addType 6 (some .int), Cond.fieldLink RX4 69 "PolarTypes$Row" "size" "I", Cond.methodLink RX4 73 yX0_add, Cond.instanceMethod yX0_add, Cond.selects RX0 yX0_add yX0_add, Cond.code yX0_add cX0_add 2 none, Cond.methodLink RX0 23 yJ7_copyOf_59c91, Cond.static yJ7_copyOf_59c91, Cond.initialized RJ7, Cond.code yJ7_copyOf_59c91 cJ7_copyOf_59c91 3 (some (.array .int)), Cond.methodLink RJ7 316 ⟨"[I", "clone", "()Ljava/lang/Object;"⟩, Cond.sameMethod "[I" "java/lang/Object" "clone" "()Ljava/lang/Object;", Cond.native ⟨"java/lang/Object", "clone", "()Ljava/lang/Object;"⟩, Cond.instanceMethod ⟨"java/lang/Object", "clone", "()Ljava/lang/Object;"⟩, Cond.selects "[I" ⟨"[I", "clone", "()Ljava/lang/Object;"⟩ ⟨"java/lang/Object", "clone", "()Ljava/lang/Object;"⟩]
def wsX7_field_r6 : List Cond := [Cond.classLink RJ7 317 "[I", Cond.arrayClass .int, Cond.methodLink RJ7 304 Lib.Math.min.name, Cond.static Lib.Math.min.name, Cond.code Lib.Math.min.name Lib.Math.min.code 2 (some .int), Cond.methodLink RJ7 150 arraycopyName, Cond.native arraycopyName, Cond.static arraycopyName, Cond.initialized "java/lang/System"]
def wsX7_field : List Cond := .code yX7_field cX7_field 4 (some .int) :: ((wsX7_field_r1 ++ (wsX7_field_r2 ++ (wsX7_field_r3 ++ (wsX7_field_r4 ++ (wsX7_field_r5 ++ wsX7_field_r6))))) ++ wsX70 ++ wsX30 ++ wsX00 ++ wsX50 ++ wsX40)
def wsX7_told_r1 : List Cond := [Cond.fieldLink RX7 12 "PolarTypes" "tree" "LPolarTypes$Tree;", Cond.methodLink RX7 67 yX3_isNode, Cond.instanceMethod yX3_isNode, Cond.selects RX3 yX3_isNode yX3_isNode, Cond.initialized RX3, Cond.code yX3_isNode cX3_isNode 2 (some .boolean), Cond.fieldLink RX3 12 "PolarTypes$Tree" "kinds" "LPolarTypes$Row;", Cond.methodLink RX3 51 yX0_holds, Cond.instanceMethod yX0_holds, Cond.selects RX0 yX0_holds yX0_holds, Cond.initialized RX0, Cond.code yX0_holds cX0_holds 2 (some .boolean), Cond.fieldLink RX0 19 "PolarTypes$Row" "size" "I", Cond.methodLink RX7 79 yX3_kindOf, Cond.instanceMethod yX3_kindOf, Cond.selects RX3 yX3_kindOf yX3_kindOf, Cond.code yX3_kindOf cX3_kindOf 2 (some .int), Cond.methodLink RX3 57 yX0_get, Cond.instanceMethod yX0_get, Cond.selects RX0 yX0_get yX0_get, Cond.code yX0_get cX0_get 2 (some .int), Cond.fieldLink RX0 9 "PolarTypes$Row" "items" "[I", Cond.methodLink RX7 95 yX3_markOf, Cond.instanceMethod yX3_markOf]
def wsX7_told_r2 : List Cond := [Cond.selects RX3 yX3_markOf yX3_markOf, Cond.code yX3_markOf cX3_markOf 2 (some .int), Cond.fieldLink RX3 18 "PolarTypes$Tree" "marks" "LPolarTypes$Row;", Cond.methodLink RX7 85 yX3_partCount, Cond.instanceMethod yX3_partCount, Cond.selects RX3 yX3_partCount yX3_partCount, Cond.code yX3_partCount cX3_partCount 2 (some .int), Cond.fieldLink RX3 24 "PolarTypes$Tree" "partCounts" "LPolarTypes$Row;", Cond.methodLink RX3 82 Lib.Math.max.name, Cond.static Lib.Math.max.name, Cond.initialized "java/lang/Math", Cond.code Lib.Math.max.name Lib.Math.max.code 2 (some .int), Cond.methodLink RX7 98 yX3_ownerOf, Cond.instanceMethod yX3_ownerOf, Cond.selects RX3 yX3_ownerOf yX3_ownerOf, Cond.code yX3_ownerOf cX3_ownerOf 2 (some .int), Cond.fieldLink RX3 21 "PolarTypes$Tree" "owners" "LPolarTypes$Row;", Cond.methodLink RX7 101 yX3_partOf, Cond.instanceMethod yX3_partOf, Cond.selects RX3 yX3_partOf yX3_partOf, Cond.code yX3_partOf cX3_partOf 3 (some .int), Cond.fieldLink RX3 27 "PolarTypes$Tree" "parts" "LPolarTypes$Row;", Cond.methodLink RX7 105 yX3_labelOf, Cond.instanceMethod yX3_labelOf]
def wsX7_told_r3 : List Cond := [Cond.selects RX3 yX3_labelOf yX3_labelOf, Cond.code yX3_labelOf cX3_labelOf 3 (some .int), Cond.fieldLink RX3 30 "PolarTypes$Tree" "labels" "LPolarTypes$Row;"]
def wsX7_told : List Cond := .code yX7_told cX7_told 3 (some .int) :: ((wsX7_told_r1 ++ (wsX7_told_r2 ++ wsX7_told_r3)) ++ wsX70 ++ wsX30 ++ wsX00)
def wsX7_type_r1 : List Cond := [Cond.fieldLink RX7 12 "PolarTypes" "tree" "LPolarTypes$Tree;", Cond.fieldLink RX7 21 "PolarTypes" "typing" "LPolarTypes$Typing;", Cond.methodLink RX7 67 yX3_isNode, Cond.instanceMethod yX3_isNode, Cond.selects RX3 yX3_isNode yX3_isNode, Cond.initialized RX3, Cond.code yX3_isNode cX3_isNode 2 (some .boolean), Cond.fieldLink RX3 12 "PolarTypes$Tree" "kinds" "LPolarTypes$Row;", Cond.methodLink RX3 51 yX0_holds, Cond.instanceMethod yX0_holds, Cond.selects RX0 yX0_holds yX0_holds, Cond.initialized RX0, Cond.code yX0_holds cX0_holds 2 (some .boolean), Cond.fieldLink RX0 19 "PolarTypes$Row" "size" "I", Cond.methodLink RX7 108 yX5_typeProgram, Cond.instanceMethod yX5_typeProgram, Cond.selects RX5 yX5_typeProgram yX5_typeProgram, Cond.initialized RX5, Cond.code yX5_typeProgram cX5_typeProgram 3 (some .int), Cond.fieldLink RX5 54 "PolarTypes$Typing" "top" "I", Cond.fieldLink RX5 61 "PolarTypes$Typing" "outcome" "I", Cond.fieldLink RX5 23 "PolarTypes$Typing" "teller" "LPolarTypes$Teller;", Cond.fieldLink RX5 32 "PolarTypes$Typing" "signs" "LPolarTypes$Signs;", Cond.fieldLink RX5 12 "PolarTypes$Typing" "types" "LPolarTypes$Types;"]
def wsX7_type_r2 : List Cond := [Cond.methodLink RX5 74 yX5_forget, Cond.instanceMethod yX5_forget, Cond.selects RX5 yX5_forget yX5_forget, Cond.code yX5_forget cX5_forget 1 none, Cond.fieldLink RX5 71 "PolarTypes$Typing" "asked" "I", Cond.fieldLink RX5 58 "PolarTypes$Typing" "place" "I", Cond.methodLink RX5 68 yX4_startAnew, Cond.instanceMethod yX4_startAnew, Cond.selects RX4 yX4_startAnew yX4_startAnew, Cond.initialized RX4, Cond.code yX4_startAnew cX4_startAnew 1 none, Cond.fieldLink RX4 12 "PolarTypes$Types" "sorts" "LPolarTypes$Row;", Cond.fieldLink RX4 18 "PolarTypes$Types" "levels" "LPolarTypes$Row;", Cond.fieldLink RX4 21 "PolarTypes$Types" "firsts" "LPolarTypes$Row;", Cond.fieldLink RX4 24 "PolarTypes$Types" "seconds" "LPolarTypes$Row;", Cond.fieldLink RX4 27 "PolarTypes$Types" "fieldLabels" "LPolarTypes$Row;", Cond.fieldLink RX4 30 "PolarTypes$Types" "fieldParts" "LPolarTypes$Row;", Cond.fieldLink RX4 33 "PolarTypes$Types" "stagedLabels" "LPolarTypes$Row;", Cond.fieldLink RX4 36 "PolarTypes$Types" "stagedParts" "LPolarTypes$Row;", Cond.fieldLink RX4 39 "PolarTypes$Types" "variables" "LPolarTypes$Row;", Cond.fieldLink RX4 49 "PolarTypes$Types" "lastAsked" "LPolarTypes$Row;", Cond.fieldLink RX4 52 "PolarTypes$Types" "askedHighs" "LPolarTypes$Row;", Cond.fieldLink RX4 55 "PolarTypes$Types" "askedAhead" "LPolarTypes$Row;", Cond.methodLink RX4 61 yX0_cutTo]
def wsX7_type_r3 : List Cond := [Cond.instanceMethod yX0_cutTo, Cond.selects RX0 yX0_cutTo yX0_cutTo, Cond.code yX0_cutTo cX0_cutTo 2 none, Cond.methodLink RX4 65 yX4_addType, Cond.instanceMethod yX4_addType, Cond.selects RX4 yX4_addType yX4_addType, Cond.code yX4_addType cX4_addType 6 (some .int), Cond.fieldLink RX4 69 "PolarTypes$Row" "size" "I", Cond.methodLink RX4 73 yX0_add, Cond.instanceMethod yX0_add, Cond.selects RX0 yX0_add yX0_add, Cond.code yX0_add cX0_add 2 none, Cond.fieldLink RX0 9 "PolarTypes$Row" "items" "[I", Cond.methodLink RX0 23 yJ7_copyOf_59c91, Cond.static yJ7_copyOf_59c91, Cond.initialized RJ7, Cond.code yJ7_copyOf_59c91 cJ7_copyOf_59c91 3 (some (.array .int)), Cond.methodLink RJ7 316 ⟨"[I", "clone", "()Ljava/lang/Object;"⟩, Cond.sameMethod "[I" "java/lang/Object" "clone" "()Ljava/lang/Object;", Cond.native ⟨"java/lang/Object", "clone", "()Ljava/lang/Object;"⟩, Cond.instanceMethod ⟨"java/lang/Object", "clone", "()Ljava/lang/Object;"⟩, Cond.selects "[I" ⟨"[I", "clone", "()Ljava/lang/Object;"⟩ ⟨"java/lang/Object", "clone", "()Ljava/lang/Object;"⟩, Cond.classLink RJ7 317 "[I", Cond.arrayClass .int]
def wsX7_type_r4 : List Cond := [Cond.methodLink RJ7 304 Lib.Math.min.name, Cond.static Lib.Math.min.name, Cond.initialized "java/lang/Math", Cond.code Lib.Math.min.name Lib.Math.min.code 2 (some .int), Cond.methodLink RJ7 150 arraycopyName, Cond.native arraycopyName, Cond.static arraycopyName, Cond.initialized "java/lang/System", Cond.methodLink RX5 77 yX5_typed, Cond.instanceMethod yX5_typed, Cond.selects RX5 yX5_typed yX5_typed, Cond.code yX5_typed cX5_typed 5 (some .int), Cond.fieldLink RX5 64 "PolarTypes$Typing" "tree" "LPolarTypes$Tree;", Cond.methodLink RX5 89 yX3_kindOf, Cond.instanceMethod yX3_kindOf, Cond.selects RX3 yX3_kindOf yX3_kindOf, Cond.code yX3_kindOf cX3_kindOf 2 (some .int), Cond.methodLink RX3 57 yX0_get, Cond.instanceMethod yX0_get, Cond.selects RX0 yX0_get yX0_get, Cond.code yX0_get cX0_get 2 (some .int), Cond.methodLink RX5 93 yX5_typedName, Cond.instanceMethod yX5_typedName, Cond.selects RX5 yX5_typedName yX5_typedName]
def wsX7_type_r5 : List Cond := [Cond.code yX5_typedName cX5_typedName 6 (some .int), Cond.fieldLink RX5 41 "PolarTypes$Typing" "givens" "LPolarTypes$Row;", Cond.fieldLink RX5 45 "PolarTypes$Typing" "schemes" "LPolarTypes$Row;", Cond.methodLink RX5 121 yX3_binderOf, Cond.instanceMethod yX3_binderOf, Cond.selects RX3 yX3_binderOf yX3_binderOf, Cond.code yX3_binderOf cX3_binderOf 6 (some .int), Cond.methodLink RX3 94 yX3_ownerOf, Cond.instanceMethod yX3_ownerOf, Cond.selects RX3 yX3_ownerOf yX3_ownerOf, Cond.code yX3_ownerOf cX3_ownerOf 2 (some .int), Cond.fieldLink RX3 21 "PolarTypes$Tree" "owners" "LPolarTypes$Row;", Cond.methodLink RX3 100 yX3_markOf, Cond.instanceMethod yX3_markOf, Cond.selects RX3 yX3_markOf yX3_markOf, Cond.code yX3_markOf cX3_markOf 2 (some .int), Cond.fieldLink RX3 18 "PolarTypes$Tree" "marks" "LPolarTypes$Row;", Cond.methodLink RX3 103 yX3_bindsIn, Cond.instanceMethod yX3_bindsIn, Cond.selects RX3 yX3_bindsIn yX3_bindsIn, Cond.code yX3_bindsIn cX3_bindsIn 4 (some .boolean), Cond.methodLink RX3 107 yX3_kindOf, Cond.methodLink RX3 110 yX3_partOf, Cond.instanceMethod yX3_partOf]
def wsX7_type_r6 : List Cond := [Cond.selects RX3 yX3_partOf yX3_partOf, Cond.code yX3_partOf cX3_partOf 3 (some .int), Cond.fieldLink RX3 24 "PolarTypes$Tree" "partCounts" "LPolarTypes$Row;", Cond.fieldLink RX3 27 "PolarTypes$Tree" "parts" "LPolarTypes$Row;", Cond.methodLink RX5 124 yX0_get, Cond.methodLink RX5 127 yX5_startCopying, Cond.instanceMethod yX5_startCopying, Cond.selects RX5 yX5_startCopying yX5_startCopying, Cond.code yX5_startCopying cX5_startCopying 3 none, Cond.fieldLink RX5 212 "PolarTypes$Typing" "time" "I", Cond.fieldLink RX5 215 "PolarTypes$Typing" "copyAbove" "I", Cond.fieldLink RX5 218 "PolarTypes$Typing" "copyLevel" "I", Cond.methodLink RX5 131 yX5_copied, Cond.instanceMethod yX5_copied, Cond.selects RX5 yX5_copied yX5_copied, Cond.code yX5_copied cX5_copied 12 (some .int), Cond.fieldLink RX5 51 "PolarTypes$Typing" "copyTimes" "LPolarTypes$Row;", Cond.fieldLink RX5 48 "PolarTypes$Typing" "copies" "LPolarTypes$Row;", Cond.fieldLink RX5 203 "PolarTypes$Row" "size" "I", Cond.methodLink RX5 206 yX4_levelOf, Cond.instanceMethod yX4_levelOf, Cond.selects RX4 yX4_levelOf yX4_levelOf, Cond.code yX4_levelOf cX4_levelOf 2 (some .int), Cond.methodLink RX4 89 yX0_get]
def wsX7_type_r7 : List Cond := [Cond.methodLink RX5 209 yX4_sortOf, Cond.instanceMethod yX4_sortOf, Cond.selects RX4 yX4_sortOf yX4_sortOf, Cond.code yX4_sortOf cX4_sortOf 2 (some .int), Cond.methodLink RX5 178 yX4_firstOf, Cond.instanceMethod yX4_firstOf, Cond.selects RX4 yX4_firstOf yX4_firstOf, Cond.code yX4_firstOf cX4_firstOf 2 (some .int), Cond.methodLink RX5 221 yX5_otherWay, Cond.static yX5_otherWay, Cond.code yX5_otherWay cX5_otherWay 1 (some .int), Cond.methodLink RX5 181 yX4_secondOf, Cond.instanceMethod yX4_secondOf, Cond.selects RX4 yX4_secondOf yX4_secondOf, Cond.code yX4_secondOf cX4_secondOf 2 (some .int), Cond.methodLink RX5 147 yX4_addFunction, Cond.instanceMethod yX4_addFunction, Cond.selects RX4 yX4_addFunction yX4_addFunction, Cond.code yX4_addFunction cX4_addFunction 3 (some .int), Cond.methodLink RX4 83 Lib.Math.max.name, Cond.static Lib.Math.max.name, Cond.code Lib.Math.max.name Lib.Math.max.code 2 (some .int), Cond.methodLink RX4 79 yX4_levelOf, Cond.methodLink RX5 153 yX4_stagedCount]
def wsX7_type_r8 : List Cond := [Cond.instanceMethod yX4_stagedCount, Cond.selects RX4 yX4_stagedCount yX4_stagedCount, Cond.code yX4_stagedCount cX4_stagedCount 1 (some .int), Cond.methodLink RX5 184 yX4_fieldCount, Cond.instanceMethod yX4_fieldCount, Cond.selects RX4 yX4_fieldCount yX4_fieldCount, Cond.code yX4_fieldCount cX4_fieldCount 2 (some .int), Cond.methodLink RX5 193 yX4_partAt, Cond.instanceMethod yX4_partAt, Cond.selects RX4 yX4_partAt yX4_partAt, Cond.code yX4_partAt cX4_partAt 3 (some .int), Cond.methodLink RX5 187 yX4_labelAt, Cond.instanceMethod yX4_labelAt, Cond.selects RX4 yX4_labelAt yX4_labelAt, Cond.code yX4_labelAt cX4_labelAt 3 (some .int), Cond.methodLink RX5 162 yX4_stage, Cond.instanceMethod yX4_stage, Cond.selects RX4 yX4_stage yX4_stage, Cond.code yX4_stage cX4_stage 3 none, Cond.methodLink RX5 165 yX4_addRecord, Cond.instanceMethod yX4_addRecord, Cond.selects RX4 yX4_addRecord yX4_addRecord, Cond.code yX4_addRecord cX4_addRecord 6 (some .int), Cond.methodLink RX5 224 yX4_numberOf]
def wsX7_type_r9 : List Cond := [Cond.instanceMethod yX4_numberOf, Cond.selects RX4 yX4_numberOf yX4_numberOf, Cond.code yX4_numberOf cX4_numberOf 2 (some .int), Cond.methodLink RX5 137 yX4_addVariable, Cond.instanceMethod yX4_addVariable, Cond.selects RX4 yX4_addVariable yX4_addVariable, Cond.code yX4_addVariable cX4_addVariable 4 (some .int), Cond.methodLink RX4 76 yX4_emptyBounds, Cond.instanceMethod yX4_emptyBounds, Cond.selects RX4 yX4_emptyBounds yX4_emptyBounds, Cond.code yX4_emptyBounds cX4_emptyBounds 3 none, Cond.fieldLink RX4 42 "PolarTypes$Types" "bounds" "[LPolarTypes$Row;", Cond.classLink RX4 9 RX0, Cond.instantiable RX0 2, Cond.methodLink RX4 11 yX0_init, Cond.instanceMethod yX0_init, Cond.code yX0_init cX0_init 1 none, Cond.methodLink RX0 3 objectInit, Cond.instanceMethod objectInit, Cond.code objectInit ⟨#[0xb1]⟩ 1 none, Cond.methodLink RX5 134 yX0_set, Cond.instanceMethod yX0_set, Cond.selects RX0 yX0_set yX0_set, Cond.code yX0_set cX0_set 3 none]
def wsX7_type_r10 : List Cond := [Cond.methodLink RX5 196 yX4_boundsOf, Cond.instanceMethod yX4_boundsOf, Cond.selects RX4 yX4_boundsOf yX4_boundsOf, Cond.code yX4_boundsOf cX4_boundsOf 5 (some (.object "PolarTypes$Row")), Cond.fieldLink RX4 46 "PolarTypes$Types" "noBounds" "LPolarTypes$Row;", Cond.methodLink RX5 200 yX0_add, Cond.methodLink RX5 227 yX5_isTaken, Cond.static yX5_isTaken, Cond.code yX5_isTaken cX5_isTaken 2 (some .boolean), Cond.methodLink RX5 97 yX5_typedFunction, Cond.instanceMethod yX5_typedFunction, Cond.selects RX5 yX5_typedFunction yX5_typedFunction, Cond.methodLink RX5 100 yX5_typedApply, Cond.instanceMethod yX5_typedApply, Cond.selects RX5 yX5_typedApply yX5_typedApply, Cond.methodLink RX5 103 yX5_typedRecord, Cond.instanceMethod yX5_typedRecord, Cond.selects RX5 yX5_typedRecord yX5_typedRecord, Cond.methodLink RX5 106 yX5_typedField, Cond.instanceMethod yX5_typedField, Cond.selects RX5 yX5_typedField yX5_typedField, Cond.methodLink RX5 109 yX5_typedLet, Cond.instanceMethod yX5_typedLet, Cond.selects RX5 yX5_typedLet yX5_typedLet]
def wsX7_type_r11 : List Cond := [Cond.methodLink RX5 112 yX5_typedRec, Cond.instanceMethod yX5_typedRec, Cond.selects RX5 yX5_typedRec yX5_typedRec, Cond.methodLink RX5 115 yX5_typedPick, Cond.instanceMethod yX5_typedPick, Cond.selects RX5 yX5_typedPick yX5_typedPick, Cond.methodLink RX5 118 yX5_typedWholes, Cond.instanceMethod yX5_typedWholes, Cond.selects RX5 yX5_typedWholes yX5_typedWholes, Cond.code yX5_typedApply cX5_typedApply 9 (some .int), Cond.methodLink RX5 144 yX3_partOf, Cond.methodLink RX5 150 yX5_under, Cond.instanceMethod yX5_under, Cond.selects RX5 yX5_under yX5_under, Cond.code yX5_under cX5_under 8 (some .int), Cond.methodLink RX5 171 yX4_wasAsked, Cond.instanceMethod yX4_wasAsked, Cond.selects RX4 yX4_wasAsked yX4_wasAsked, Cond.code yX4_wasAsked cX4_wasAsked 7 (some .boolean), Cond.methodLink RX4 101 yX0_set, Cond.methodLink RX5 175 yX5_whatIsDue, Cond.instanceMethod yX5_whatIsDue, Cond.selects RX5 yX5_whatIsDue yX5_whatIsDue, Cond.code yX5_whatIsDue cX5_whatIsDue 5 (some .int)]
def wsX7_type_r12 : List Cond := [Cond.methodLink RX5 190 yX4_partBy, Cond.instanceMethod yX4_partBy, Cond.selects RX4 yX4_partBy yX4_partBy, Cond.code yX4_partBy cX4_partBy 5 (some .int), Cond.methodLink RX4 92 yX4_fieldCount, Cond.methodLink RX4 95 yX4_labelAt, Cond.methodLink RX4 98 yX4_partAt, Cond.code yX5_typedField cX5_typedField 9 (some .int), Cond.methodLink RX5 168 yX3_markOf, Cond.code yX5_typedFunction cX5_typedFunction 6 (some .int), Cond.methodLink RX5 140 yX5_gives, Cond.instanceMethod yX5_gives, Cond.selects RX5 yX5_gives yX5_gives, Cond.code yX5_gives cX5_gives 4 none, Cond.code yX5_typedLet cX5_typedLet 5 (some .int), Cond.code yX5_typedPick cX5_typedPick 9 (some .int), Cond.code yX5_typedRec cX5_typedRec 7 (some .int), Cond.code yX5_typedRecord cX5_typedRecord 8 (some .int), Cond.methodLink RX5 156 yX3_partCount, Cond.instanceMethod yX3_partCount, Cond.selects RX3 yX3_partCount yX3_partCount, Cond.code yX3_partCount cX3_partCount 2 (some .int), Cond.methodLink RX3 82 Lib.Math.max.name, Cond.methodLink RX5 159 yX3_labelOf]
def wsX7_type_r13 : List Cond := [Cond.instanceMethod yX3_labelOf, Cond.selects RX3 yX3_labelOf yX3_labelOf, Cond.code yX3_labelOf cX3_labelOf 3 (some .int), Cond.fieldLink RX3 30 "PolarTypes$Tree" "labels" "LPolarTypes$Row;", Cond.code yX5_typedWholes cX5_typedWholes 7 (some .int), Cond.methodLink RX5 81 yX2_tell, Cond.instanceMethod yX2_tell, Cond.selects RX2 yX2_tell yX2_tell, Cond.initialized RX2, Cond.code yX2_tell cX2_tell 5 none, Cond.fieldLink RX2 35 "PolarTypes$Teller" "signs" "LPolarTypes$Signs;", Cond.constant RX2 50 (1000000), Cond.fieldLink RX2 12 "PolarTypes$Teller" "openTypes" "LPolarTypes$Row;", Cond.fieldLink RX2 51 "PolarTypes$Row" "size" "I", Cond.methodLink RX2 43 yX1_clear, Cond.instanceMethod yX1_clear, Cond.selects RX1 yX1_clear yX1_clear, Cond.initialized RX1, Cond.code yX1_clear cX1_clear 1 none, Cond.fieldLink RX1 21 "PolarTypes$Signs" "size" "I", Cond.methodLink RX2 46 yX2_begin, Cond.instanceMethod yX2_begin, Cond.selects RX2 yX2_begin yX2_begin, Cond.code yX2_begin cX2_begin 4 none]
def wsX7_type_r14 : List Cond := [Cond.fieldLink RX2 39 "PolarTypes$Teller" "types" "LPolarTypes$Types;", Cond.fieldLink RX2 29 "PolarTypes$Teller" "isOpen" "LPolarTypes$Row;", Cond.fieldLink RX2 18 "PolarTypes$Teller" "openWays" "LPolarTypes$Row;", Cond.fieldLink RX2 21 "PolarTypes$Teller" "openPlaces" "LPolarTypes$Row;", Cond.methodLink RX2 65 yX4_sortOf, Cond.methodLink RX2 69 yX1_put, Cond.instanceMethod yX1_put, Cond.selects RX1 yX1_put yX1_put, Cond.code yX1_put cX1_put 2 none, Cond.fieldLink RX1 15 "PolarTypes$Signs" "kept" "[B", Cond.methodLink RX2 73 yX4_numberOf, Cond.methodLink RX2 76 yX4_boundsOf, Cond.methodLink RX2 80 yX0_get, Cond.methodLink RX2 83 yX2_putNumber, Cond.instanceMethod yX2_putNumber, Cond.selects RX2 yX2_putNumber yX2_putNumber, Cond.code yX2_putNumber cX2_putNumber 2 none, Cond.methodLink RX2 92 yX1_putFigures, Cond.instanceMethod yX1_putFigures, Cond.selects RX1 yX1_putFigures yX1_putFigures, Cond.code yX1_putFigures cX1_putFigures 9 none, Cond.constantLong RX1 29 (1000000000), Cond.constantLong RX1 31 (10), Cond.constantLong RX1 33 (48)]
def wsX7_type_r15 : List Cond := [Cond.methodLink RX1 25 yX1_put, Cond.methodLink RX2 86 yX0_set, Cond.methodLink RX2 89 yX0_add, Cond.methodLink RX2 55 yX1_isFull, Cond.instanceMethod yX1_isFull, Cond.selects RX1 yX1_isFull yX1_isFull, Cond.code yX1_isFull cX1_isFull 1 (some .boolean), Cond.methodLink RX2 59 yX2_close, Cond.instanceMethod yX2_close, Cond.selects RX2 yX2_close yX2_close, Cond.code yX2_close cX2_close 3 none, Cond.methodLink RX2 114 yX0_cutTo, Cond.methodLink RX2 62 yX2_goOn, Cond.instanceMethod yX2_goOn, Cond.selects RX2 yX2_goOn yX2_goOn, Cond.code yX2_goOn cX2_goOn 6 none, Cond.methodLink RX2 95 yX4_firstOf, Cond.methodLink RX2 98 yX4_secondOf, Cond.methodLink RX2 101 yX4_fieldCount, Cond.methodLink RX2 104 yX4_labelAt, Cond.methodLink RX2 108 yX1_putLetter, Cond.instanceMethod yX1_putLetter, Cond.selects RX1 yX1_putLetter yX1_putLetter, Cond.code yX1_putLetter cX1_putLetter 2 none]
def wsX7_type_r16 : List Cond := [Cond.methodLink RX2 111 yX4_partAt, Cond.methodLink RX5 85 yX4_variableCount, Cond.instanceMethod yX4_variableCount, Cond.selects RX4 yX4_variableCount yX4_variableCount, Cond.code yX4_variableCount cX4_variableCount 1 (some .int)]
def wsX7_type : List Cond := .code yX7_type cX7_type 2 (some .int) :: ((wsX7_type_r1 ++ (wsX7_type_r2 ++ (wsX7_type_r3 ++ (wsX7_type_r4 ++ (wsX7_type_r5 ++ (wsX7_type_r6 ++ (wsX7_type_r7 ++ (wsX7_type_r8 ++ (wsX7_type_r9 ++ (wsX7_type_r10 ++ (wsX7_type_r11 ++ (wsX7_type_r12 ++ (wsX7_type_r13 ++ (wsX7_type_r14 ++ (wsX7_type_r15 ++ wsX7_type_r16))))))))))))))) ++ wsX70 ++ wsX30 ++ wsX00 ++ wsX50 ++ wsX40 ++ wsX20 ++ wsX10)
def wsX7_where : List Cond := .code yX7_where cX7_where 1 (some .int) :: ([.fieldLink RX7 21 "PolarTypes" "typing" "LPolarTypes$Typing;", .fieldLink RX7 111 "PolarTypes$Typing" "place" "I"] ++ wsX70 ++ wsX50)
def wsX7_steps : List Cond := .code yX7_steps cX7_steps 1 (some .int) :: ([.fieldLink RX7 21 "PolarTypes" "typing" "LPolarTypes$Typing;", .fieldLink RX7 115 "PolarTypes$Typing" "asked" "I"] ++ wsX70 ++ wsX50)
def wsX7_sign : List Cond := .code yX7_sign cX7_sign 2 (some .int) :: ([.fieldLink RX7 21 "PolarTypes" "typing" "LPolarTypes$Typing;", .fieldLink RX7 118 "PolarTypes$Typing" "outcome" "I", .fieldLink RX7 121 "PolarTypes$Typing" "signs" "LPolarTypes$Signs;", .methodLink RX7 124 yX1_at, .instanceMethod yX1_at, .selects RX1 yX1_at yX1_at, .initialized RX1, .code yX1_at cX1_at 2 (some .int), .fieldLink RX1 21 "PolarTypes$Signs" "size" "I", .fieldLink RX1 15 "PolarTypes$Signs" "kept" "[B"] ++ wsX70 ++ wsX50 ++ wsX10)
def wsX7_variable_r1 : List Cond := [Cond.fieldLink RX7 21 "PolarTypes" "typing" "LPolarTypes$Typing;", Cond.fieldLink RX7 127 "PolarTypes$Typing" "types" "LPolarTypes$Types;", Cond.fieldLink RX7 143 "PolarTypes$Row" "size" "I", Cond.methodLink RX7 131 yX4_ofVariable, Cond.instanceMethod yX4_ofVariable, Cond.selects RX4 yX4_ofVariable yX4_ofVariable, Cond.initialized RX4, Cond.code yX4_ofVariable cX4_ofVariable 2 (some .int), Cond.fieldLink RX4 39 "PolarTypes$Types" "variables" "LPolarTypes$Row;", Cond.methodLink RX4 89 yX0_get, Cond.instanceMethod yX0_get, Cond.selects RX0 yX0_get yX0_get, Cond.initialized RX0, Cond.code yX0_get cX0_get 2 (some .int), Cond.fieldLink RX0 19 "PolarTypes$Row" "size" "I", Cond.fieldLink RX0 9 "PolarTypes$Row" "items" "[I", Cond.methodLink RX7 136 yX4_levelOf, Cond.instanceMethod yX4_levelOf, Cond.selects RX4 yX4_levelOf yX4_levelOf, Cond.code yX4_levelOf cX4_levelOf 2 (some .int), Cond.fieldLink RX4 18 "PolarTypes$Types" "levels" "LPolarTypes$Row;", Cond.methodLink RX7 139 yX4_boundsOf, Cond.instanceMethod yX4_boundsOf, Cond.selects RX4 yX4_boundsOf yX4_boundsOf]
def wsX7_variable_r2 : List Cond := [Cond.code yX4_boundsOf cX4_boundsOf 5 (some (.object "PolarTypes$Row")), Cond.fieldLink RX4 21 "PolarTypes$Types" "firsts" "LPolarTypes$Row;", Cond.fieldLink RX4 12 "PolarTypes$Types" "sorts" "LPolarTypes$Row;", Cond.fieldLink RX4 42 "PolarTypes$Types" "bounds" "[LPolarTypes$Row;", Cond.fieldLink RX4 46 "PolarTypes$Types" "noBounds" "LPolarTypes$Row;"]
def wsX7_variable : List Cond := .code yX7_variable cX7_variable 4 (some .int) :: ((wsX7_variable_r1 ++ wsX7_variable_r2) ++ wsX70 ++ wsX50 ++ wsX00 ++ wsX40)
def wsX7_bound_r1 : List Cond := [Cond.fieldLink RX7 21 "PolarTypes" "typing" "LPolarTypes$Typing;", Cond.fieldLink RX7 127 "PolarTypes$Typing" "types" "LPolarTypes$Types;", Cond.fieldLink RX7 151 "PolarTypes$Typing" "teller" "LPolarTypes$Teller;", Cond.fieldLink RX7 39 "PolarTypes" "boundSigns" "LPolarTypes$Signs;", Cond.methodLink RX7 131 yX4_ofVariable, Cond.instanceMethod yX4_ofVariable, Cond.selects RX4 yX4_ofVariable yX4_ofVariable, Cond.initialized RX4, Cond.code yX4_ofVariable cX4_ofVariable 2 (some .int), Cond.fieldLink RX4 39 "PolarTypes$Types" "variables" "LPolarTypes$Row;", Cond.methodLink RX4 89 yX0_get, Cond.instanceMethod yX0_get, Cond.selects RX0 yX0_get yX0_get, Cond.initialized RX0, Cond.code yX0_get cX0_get 2 (some .int), Cond.fieldLink RX0 19 "PolarTypes$Row" "size" "I", Cond.fieldLink RX0 9 "PolarTypes$Row" "items" "[I", Cond.methodLink RX7 139 yX4_boundsOf, Cond.instanceMethod yX4_boundsOf, Cond.selects RX4 yX4_boundsOf yX4_boundsOf, Cond.code yX4_boundsOf cX4_boundsOf 5 (some (.object "PolarTypes$Row")), Cond.fieldLink RX4 21 "PolarTypes$Types" "firsts" "LPolarTypes$Row;", Cond.fieldLink RX4 12 "PolarTypes$Types" "sorts" "LPolarTypes$Row;", Cond.fieldLink RX4 42 "PolarTypes$Types" "bounds" "[LPolarTypes$Row;"]
def wsX7_bound_r2 : List Cond := [Cond.fieldLink RX4 46 "PolarTypes$Types" "noBounds" "LPolarTypes$Row;", Cond.methodLink RX7 148 yX0_holds, Cond.instanceMethod yX0_holds, Cond.selects RX0 yX0_holds yX0_holds, Cond.code yX0_holds cX0_holds 2 (some .boolean), Cond.methodLink RX7 155 yX0_get, Cond.methodLink RX7 158 yX2_tell, Cond.instanceMethod yX2_tell, Cond.selects RX2 yX2_tell yX2_tell, Cond.initialized RX2, Cond.code yX2_tell cX2_tell 5 none, Cond.fieldLink RX2 35 "PolarTypes$Teller" "signs" "LPolarTypes$Signs;", Cond.constant RX2 50 (1000000), Cond.fieldLink RX2 12 "PolarTypes$Teller" "openTypes" "LPolarTypes$Row;", Cond.fieldLink RX2 51 "PolarTypes$Row" "size" "I", Cond.methodLink RX2 43 yX1_clear, Cond.instanceMethod yX1_clear, Cond.selects RX1 yX1_clear yX1_clear, Cond.initialized RX1, Cond.code yX1_clear cX1_clear 1 none, Cond.fieldLink RX1 21 "PolarTypes$Signs" "size" "I", Cond.methodLink RX2 46 yX2_begin, Cond.instanceMethod yX2_begin, Cond.selects RX2 yX2_begin yX2_begin]
def wsX7_bound_r3 : List Cond := [Cond.code yX2_begin cX2_begin 4 none, Cond.fieldLink RX2 39 "PolarTypes$Teller" "types" "LPolarTypes$Types;", Cond.fieldLink RX2 29 "PolarTypes$Teller" "isOpen" "LPolarTypes$Row;", Cond.fieldLink RX2 18 "PolarTypes$Teller" "openWays" "LPolarTypes$Row;", Cond.fieldLink RX2 21 "PolarTypes$Teller" "openPlaces" "LPolarTypes$Row;", Cond.methodLink RX2 65 yX4_sortOf, Cond.instanceMethod yX4_sortOf, Cond.selects RX4 yX4_sortOf yX4_sortOf, Cond.code yX4_sortOf cX4_sortOf 2 (some .int), Cond.methodLink RX2 69 yX1_put, Cond.instanceMethod yX1_put, Cond.selects RX1 yX1_put yX1_put, Cond.code yX1_put cX1_put 2 none, Cond.fieldLink RX1 15 "PolarTypes$Signs" "kept" "[B", Cond.methodLink RX2 73 yX4_numberOf, Cond.instanceMethod yX4_numberOf, Cond.selects RX4 yX4_numberOf yX4_numberOf, Cond.code yX4_numberOf cX4_numberOf 2 (some .int), Cond.methodLink RX2 76 yX4_boundsOf, Cond.methodLink RX2 80 yX0_get, Cond.methodLink RX2 83 yX2_putNumber, Cond.instanceMethod yX2_putNumber, Cond.selects RX2 yX2_putNumber yX2_putNumber, Cond.code yX2_putNumber cX2_putNumber 2 none]
def wsX7_bound_r4 : List Cond := [Cond.methodLink RX2 92 yX1_putFigures, Cond.instanceMethod yX1_putFigures, Cond.selects RX1 yX1_putFigures yX1_putFigures, Cond.code yX1_putFigures cX1_putFigures 9 none, Cond.constantLong RX1 29 (1000000000), Cond.constantLong RX1 31 (10), Cond.constantLong RX1 33 (48), Cond.methodLink RX1 25 yX1_put, Cond.methodLink RX2 86 yX0_set, Cond.instanceMethod yX0_set, Cond.selects RX0 yX0_set yX0_set, Cond.code yX0_set cX0_set 3 none, Cond.methodLink RX2 89 yX0_add, Cond.instanceMethod yX0_add, Cond.selects RX0 yX0_add yX0_add, Cond.code yX0_add cX0_add 2 none, Cond.methodLink RX0 23 yJ7_copyOf_59c91, Cond.static yJ7_copyOf_59c91, Cond.initialized RJ7, Cond.code yJ7_copyOf_59c91 cJ7_copyOf_59c91 3 (some (.array .int)), Cond.methodLink RJ7 316 ⟨"[I", "clone", "()Ljava/lang/Object;"⟩, Cond.sameMethod "[I" "java/lang/Object" "clone" "()Ljava/lang/Object;", Cond.native ⟨"java/lang/Object", "clone", "()Ljava/lang/Object;"⟩, Cond.instanceMethod ⟨"java/lang/Object", "clone", "()Ljava/lang/Object;"⟩]
def wsX7_bound_r5 : List Cond := [Cond.selects "[I" ⟨"[I", "clone", "()Ljava/lang/Object;"⟩ ⟨"java/lang/Object", "clone", "()Ljava/lang/Object;"⟩, Cond.classLink RJ7 317 "[I", Cond.arrayClass .int, Cond.methodLink RJ7 304 Lib.Math.min.name, Cond.static Lib.Math.min.name, Cond.initialized "java/lang/Math", Cond.code Lib.Math.min.name Lib.Math.min.code 2 (some .int), Cond.methodLink RJ7 150 arraycopyName, Cond.native arraycopyName, Cond.static arraycopyName, Cond.initialized "java/lang/System", Cond.methodLink RX2 55 yX1_isFull, Cond.instanceMethod yX1_isFull, Cond.selects RX1 yX1_isFull yX1_isFull, Cond.code yX1_isFull cX1_isFull 1 (some .boolean), Cond.methodLink RX2 59 yX2_close, Cond.instanceMethod yX2_close, Cond.selects RX2 yX2_close yX2_close, Cond.code yX2_close cX2_close 3 none, Cond.methodLink RX2 114 yX0_cutTo, Cond.instanceMethod yX0_cutTo, Cond.selects RX0 yX0_cutTo yX0_cutTo, Cond.code yX0_cutTo cX0_cutTo 2 none, Cond.methodLink RX2 62 yX2_goOn]
def wsX7_bound_r6 : List Cond := [Cond.instanceMethod yX2_goOn, Cond.selects RX2 yX2_goOn yX2_goOn, Cond.code yX2_goOn cX2_goOn 6 none, Cond.methodLink RX2 95 yX4_firstOf, Cond.instanceMethod yX4_firstOf, Cond.selects RX4 yX4_firstOf yX4_firstOf, Cond.code yX4_firstOf cX4_firstOf 2 (some .int), Cond.methodLink RX2 98 yX4_secondOf, Cond.instanceMethod yX4_secondOf, Cond.selects RX4 yX4_secondOf yX4_secondOf, Cond.code yX4_secondOf cX4_secondOf 2 (some .int), Cond.fieldLink RX4 24 "PolarTypes$Types" "seconds" "LPolarTypes$Row;", Cond.methodLink RX2 101 yX4_fieldCount, Cond.instanceMethod yX4_fieldCount, Cond.selects RX4 yX4_fieldCount yX4_fieldCount, Cond.code yX4_fieldCount cX4_fieldCount 2 (some .int), Cond.methodLink RX2 104 yX4_labelAt, Cond.instanceMethod yX4_labelAt, Cond.selects RX4 yX4_labelAt yX4_labelAt, Cond.code yX4_labelAt cX4_labelAt 3 (some .int), Cond.fieldLink RX4 27 "PolarTypes$Types" "fieldLabels" "LPolarTypes$Row;", Cond.methodLink RX2 108 yX1_putLetter, Cond.instanceMethod yX1_putLetter, Cond.selects RX1 yX1_putLetter yX1_putLetter]
def wsX7_bound_r7 : List Cond := [Cond.code yX1_putLetter cX1_putLetter 2 none, Cond.methodLink RX2 111 yX4_partAt, Cond.instanceMethod yX4_partAt, Cond.selects RX4 yX4_partAt yX4_partAt, Cond.code yX4_partAt cX4_partAt 3 (some .int), Cond.fieldLink RX4 30 "PolarTypes$Types" "fieldParts" "LPolarTypes$Row;", Cond.methodLink RX7 124 yX1_at, Cond.instanceMethod yX1_at, Cond.selects RX1 yX1_at yX1_at, Cond.code yX1_at cX1_at 2 (some .int)]
def wsX7_bound : List Cond := .code yX7_bound cX7_bound 8 (some .int) :: ((wsX7_bound_r1 ++ (wsX7_bound_r2 ++ (wsX7_bound_r3 ++ (wsX7_bound_r4 ++ (wsX7_bound_r5 ++ (wsX7_bound_r6 ++ wsX7_bound_r7)))))) ++ wsX70 ++ wsX50 ++ wsX40 ++ wsX00 ++ wsX20 ++ wsX10)
def wsX7_work_r1 : List Cond := [Cond.fieldLink RX7 12 "PolarTypes" "tree" "LPolarTypes$Tree;", Cond.fieldLink RX7 28 "PolarTypes" "working" "LPolarTypes$Working;", Cond.methodLink RX7 67 yX3_isNode, Cond.instanceMethod yX3_isNode, Cond.selects RX3 yX3_isNode yX3_isNode, Cond.initialized RX3, Cond.code yX3_isNode cX3_isNode 2 (some .boolean), Cond.fieldLink RX3 12 "PolarTypes$Tree" "kinds" "LPolarTypes$Row;", Cond.methodLink RX3 51 yX0_holds, Cond.instanceMethod yX0_holds, Cond.selects RX0 yX0_holds yX0_holds, Cond.initialized RX0, Cond.code yX0_holds cX0_holds 2 (some .boolean), Cond.fieldLink RX0 19 "PolarTypes$Row" "size" "I", Cond.methodLink RX7 162 yX6_workProgram, Cond.instanceMethod yX6_workProgram, Cond.selects RX6 yX6_workProgram yX6_workProgram, Cond.initialized RX6, Cond.code yX6_workProgram cX6_workProgram 4 (some .int), Cond.fieldLink RX6 52 "PolarTypes$Working" "outcome" "I", Cond.methodLink RX6 59 yX6_startAnew, Cond.instanceMethod yX6_startAnew, Cond.selects RX6 yX6_startAnew yX6_startAnew, Cond.code yX6_startAnew cX6_startAnew 2 none]
def wsX7_work_r2 : List Cond := [Cond.fieldLink RX6 23 "PolarTypes$Working" "sorts" "LPolarTypes$Row;", Cond.fieldLink RX6 27 "PolarTypes$Working" "cores" "LPolarTypes$Row;", Cond.fieldLink RX6 30 "PolarTypes$Working" "links" "LPolarTypes$Row;", Cond.fieldLink RX6 33 "PolarTypes$Working" "fieldValues" "LPolarTypes$Row;", Cond.fieldLink RX6 36 "PolarTypes$Working" "sightLetters" "LPolarTypes$Row;", Cond.fieldLink RX6 39 "PolarTypes$Working" "sightValues" "LPolarTypes$Row;", Cond.fieldLink RX6 42 "PolarTypes$Working" "sightRecs" "LPolarTypes$Row;", Cond.fieldLink RX6 45 "PolarTypes$Working" "sightNexts" "LPolarTypes$Row;", Cond.fieldLink RX6 16 "PolarTypes$Working" "signs" "LPolarTypes$Signs;", Cond.fieldLink RX6 76 "PolarTypes$Working" "allowed" "I", Cond.fieldLink RX6 79 "PolarTypes$Working" "begun" "I", Cond.fieldLink RX6 48 "PolarTypes$Working" "place" "I", Cond.methodLink RX6 70 yX0_cutTo, Cond.instanceMethod yX0_cutTo, Cond.selects RX0 yX0_cutTo yX0_cutTo, Cond.code yX0_cutTo cX0_cutTo 2 none, Cond.methodLink RX6 73 yX1_clear, Cond.instanceMethod yX1_clear, Cond.selects RX1 yX1_clear yX1_clear, Cond.initialized RX1, Cond.code yX1_clear cX1_clear 1 none, Cond.fieldLink RX1 21 "PolarTypes$Signs" "size" "I", Cond.methodLink RX6 62 yX6_run, Cond.instanceMethod yX6_run]
def wsX7_work_r3 : List Cond := [Cond.selects RX6 yX6_run yX6_run, Cond.code yX6_run cX6_run 4 (some .int), Cond.fieldLink RX6 55 "PolarTypes$Working" "tree" "LPolarTypes$Tree;", Cond.methodLink RX6 88 yX3_kindOf, Cond.instanceMethod yX3_kindOf, Cond.selects RX3 yX3_kindOf yX3_kindOf, Cond.code yX3_kindOf cX3_kindOf 2 (some .int), Cond.methodLink RX3 57 yX0_get, Cond.instanceMethod yX0_get, Cond.selects RX0 yX0_get yX0_get, Cond.code yX0_get cX0_get 2 (some .int), Cond.fieldLink RX0 9 "PolarTypes$Row" "items" "[I", Cond.methodLink RX6 94 yX3_markOf, Cond.instanceMethod yX3_markOf, Cond.selects RX3 yX3_markOf yX3_markOf, Cond.code yX3_markOf cX3_markOf 2 (some .int), Cond.fieldLink RX3 18 "PolarTypes$Tree" "marks" "LPolarTypes$Row;", Cond.methodLink RX6 97 yX6_addValue, Cond.instanceMethod yX6_addValue, Cond.selects RX6 yX6_addValue yX6_addValue, Cond.code yX6_addValue cX6_addValue 4 (some .int), Cond.fieldLink RX6 85 "PolarTypes$Row" "size" "I", Cond.methodLink RX6 82 yX0_add, Cond.instanceMethod yX0_add]
def wsX7_work_r4 : List Cond := [Cond.selects RX0 yX0_add yX0_add, Cond.code yX0_add cX0_add 2 none, Cond.methodLink RX0 23 yJ7_copyOf_59c91, Cond.static yJ7_copyOf_59c91, Cond.initialized RJ7, Cond.code yJ7_copyOf_59c91 cJ7_copyOf_59c91 3 (some (.array .int)), Cond.methodLink RJ7 316 ⟨"[I", "clone", "()Ljava/lang/Object;"⟩, Cond.sameMethod "[I" "java/lang/Object" "clone" "()Ljava/lang/Object;", Cond.native ⟨"java/lang/Object", "clone", "()Ljava/lang/Object;"⟩, Cond.instanceMethod ⟨"java/lang/Object", "clone", "()Ljava/lang/Object;"⟩, Cond.selects "[I" ⟨"[I", "clone", "()Ljava/lang/Object;"⟩ ⟨"java/lang/Object", "clone", "()Ljava/lang/Object;"⟩, Cond.classLink RJ7 317 "[I", Cond.arrayClass .int, Cond.methodLink RJ7 304 Lib.Math.min.name, Cond.static Lib.Math.min.name, Cond.initialized "java/lang/Math", Cond.code Lib.Math.min.name Lib.Math.min.code 2 (some .int), Cond.methodLink RJ7 150 arraycopyName, Cond.native arraycopyName, Cond.static arraycopyName, Cond.initialized "java/lang/System", Cond.methodLink RX6 100 yX6_runName, Cond.instanceMethod yX6_runName, Cond.selects RX6 yX6_runName yX6_runName]
def wsX7_work_r5 : List Cond := [Cond.methodLink RX6 103 yX6_runApply, Cond.instanceMethod yX6_runApply, Cond.selects RX6 yX6_runApply yX6_runApply, Cond.methodLink RX6 106 yX6_runRecord, Cond.instanceMethod yX6_runRecord, Cond.selects RX6 yX6_runRecord yX6_runRecord, Cond.methodLink RX6 109 yX6_runField, Cond.instanceMethod yX6_runField, Cond.selects RX6 yX6_runField yX6_runField, Cond.methodLink RX6 112 yX6_runLet, Cond.instanceMethod yX6_runLet, Cond.selects RX6 yX6_runLet yX6_runLet, Cond.methodLink RX6 115 yX6_runRec, Cond.instanceMethod yX6_runRec, Cond.selects RX6 yX6_runRec yX6_runRec, Cond.methodLink RX6 118 yX6_runPick, Cond.instanceMethod yX6_runPick, Cond.selects RX6 yX6_runPick yX6_runPick, Cond.methodLink RX6 121 yX6_runWholes, Cond.instanceMethod yX6_runWholes, Cond.selects RX6 yX6_runWholes yX6_runWholes, Cond.code yX6_runApply cX6_runApply 8 (some .int), Cond.methodLink RX6 134 yX3_partOf, Cond.instanceMethod yX3_partOf]
def wsX7_work_r6 : List Cond := [Cond.selects RX3 yX3_partOf yX3_partOf, Cond.code yX3_partOf cX3_partOf 3 (some .int), Cond.fieldLink RX3 24 "PolarTypes$Tree" "partCounts" "LPolarTypes$Row;", Cond.fieldLink RX3 27 "PolarTypes$Tree" "parts" "LPolarTypes$Row;", Cond.methodLink RX6 131 yX0_get, Cond.methodLink RX6 128 yX6_stuckAt, Cond.instanceMethod yX6_stuckAt, Cond.selects RX6 yX6_stuckAt yX6_stuckAt, Cond.code yX6_stuckAt cX6_stuckAt 2 (some .int), Cond.methodLink RX6 137 yX6_addSight, Cond.instanceMethod yX6_addSight, Cond.selects RX6 yX6_addSight yX6_addSight, Cond.code yX6_addSight cX6_addSight 5 (some .int), Cond.code yX6_runField cX6_runField 6 (some .int), Cond.methodLink RX6 147 yX3_placeOf, Cond.instanceMethod yX3_placeOf, Cond.selects RX3 yX3_placeOf yX3_placeOf, Cond.code yX3_placeOf cX3_placeOf 5 (some .int), Cond.methodLink RX3 75 yX3_partCount, Cond.instanceMethod yX3_partCount, Cond.selects RX3 yX3_partCount yX3_partCount, Cond.code yX3_partCount cX3_partCount 2 (some .int), Cond.methodLink RX3 82 Lib.Math.max.name, Cond.static Lib.Math.max.name]
def wsX7_work_r7 : List Cond := [Cond.code Lib.Math.max.name Lib.Math.max.code 2 (some .int), Cond.methodLink RX3 91 yX3_labelOf, Cond.instanceMethod yX3_labelOf, Cond.selects RX3 yX3_labelOf yX3_labelOf, Cond.code yX3_labelOf cX3_labelOf 3 (some .int), Cond.fieldLink RX3 30 "PolarTypes$Tree" "labels" "LPolarTypes$Row;", Cond.code yX6_runLet cX6_runLet 5 (some .int), Cond.code yX6_runName cX6_runName 6 (some .int), Cond.methodLink RX6 124 yX6_seenBy, Cond.instanceMethod yX6_seenBy, Cond.selects RX6 yX6_seenBy yX6_seenBy, Cond.code yX6_seenBy cX6_seenBy 5 (some .int), Cond.code yX6_runPick cX6_runPick 5 (some .int), Cond.code yX6_runRec cX6_runRec 4 (some .int), Cond.code yX6_runRecord cX6_runRecord 8 (some .int), Cond.methodLink RX6 141 yX3_partCount, Cond.methodLink RX6 144 yX0_set, Cond.instanceMethod yX0_set, Cond.selects RX0 yX0_set yX0_set, Cond.code yX0_set cX0_set 3 none, Cond.code yX6_runWholes cX6_runWholes 8 (some .int), Cond.methodLink RX6 66 yX6_putValue, Cond.instanceMethod yX6_putValue, Cond.selects RX6 yX6_putValue yX6_putValue]
def wsX7_work_r8 : List Cond := [Cond.code yX6_putValue cX6_putValue 6 none, Cond.methodLink RX6 150 yX1_isFull, Cond.instanceMethod yX1_isFull, Cond.selects RX1 yX1_isFull yX1_isFull, Cond.code yX1_isFull cX1_isFull 1 (some .boolean), Cond.fieldLink RX1 15 "PolarTypes$Signs" "kept" "[B", Cond.methodLink RX6 154 yX1_putFigures, Cond.instanceMethod yX1_putFigures, Cond.selects RX1 yX1_putFigures yX1_putFigures, Cond.code yX1_putFigures cX1_putFigures 9 none, Cond.constantLong RX1 29 (1000000000), Cond.constantLong RX1 31 (10), Cond.constantLong RX1 33 (48), Cond.methodLink RX1 25 yX1_put, Cond.instanceMethod yX1_put, Cond.selects RX1 yX1_put yX1_put, Cond.code yX1_put cX1_put 2 none, Cond.methodLink RX6 157 yX1_put, Cond.methodLink RX6 161 yX3_labelOf, Cond.methodLink RX6 164 yX1_putLetter, Cond.instanceMethod yX1_putLetter, Cond.selects RX1 yX1_putLetter yX1_putLetter, Cond.code yX1_putLetter cX1_putLetter 2 none]
def wsX7_work : List Cond := .code yX7_work cX7_work 3 (some .int) :: ((wsX7_work_r1 ++ (wsX7_work_r2 ++ (wsX7_work_r3 ++ (wsX7_work_r4 ++ (wsX7_work_r5 ++ (wsX7_work_r6 ++ (wsX7_work_r7 ++ wsX7_work_r8))))))) ++ wsX70 ++ wsX30 ++ wsX00 ++ wsX60 ++ wsX10)
def wsX7_value : List Cond := .code yX7_value cX7_value 2 (some .int) :: ([.fieldLink RX7 28 "PolarTypes" "working" "LPolarTypes$Working;", .fieldLink RX7 165 "PolarTypes$Working" "outcome" "I", .fieldLink RX7 166 "PolarTypes$Working" "signs" "LPolarTypes$Signs;", .methodLink RX7 124 yX1_at, .instanceMethod yX1_at, .selects RX1 yX1_at yX1_at, .initialized RX1, .code yX1_at cX1_at 2 (some .int), .fieldLink RX1 21 "PolarTypes$Signs" "size" "I", .fieldLink RX1 15 "PolarTypes$Signs" "kept" "[B"] ++ wsX70 ++ wsX60 ++ wsX10)
def wsX7_worked : List Cond := .code yX7_worked cX7_worked 1 (some .int) :: ([.fieldLink RX7 28 "PolarTypes" "working" "LPolarTypes$Working;", .fieldLink RX7 167 "PolarTypes$Working" "begun" "I"] ++ wsX70 ++ wsX60)
def wsX7_stuck : List Cond := .code yX7_stuck cX7_stuck 1 (some .int) :: ([.fieldLink RX7 28 "PolarTypes" "working" "LPolarTypes$Working;", .fieldLink RX7 170 "PolarTypes$Working" "place" "I"] ++ wsX70 ++ wsX60)
def wsX7_count_r1 : List Cond := [Cond.fieldLink RX7 12 "PolarTypes" "tree" "LPolarTypes$Tree;", Cond.fieldLink RX7 21 "PolarTypes" "typing" "LPolarTypes$Typing;", Cond.fieldLink RX7 127 "PolarTypes$Typing" "types" "LPolarTypes$Types;", Cond.fieldLink RX7 28 "PolarTypes" "working" "LPolarTypes$Working;", Cond.fieldLink RX7 165 "PolarTypes$Working" "outcome" "I", Cond.methodLink RX7 171 yX3_size, Cond.instanceMethod yX3_size, Cond.selects RX3 yX3_size yX3_size, Cond.initialized RX3, Cond.code yX3_size cX3_size 1 (some .int), Cond.fieldLink RX3 12 "PolarTypes$Tree" "kinds" "LPolarTypes$Row;", Cond.fieldLink RX3 47 "PolarTypes$Row" "size" "I", Cond.methodLink RX7 174 yX4_variableCount, Cond.instanceMethod yX4_variableCount, Cond.selects RX4 yX4_variableCount yX4_variableCount, Cond.initialized RX4, Cond.code yX4_variableCount cX4_variableCount 1 (some .int), Cond.fieldLink RX4 39 "PolarTypes$Types" "variables" "LPolarTypes$Row;", Cond.fieldLink RX4 69 "PolarTypes$Row" "size" "I", Cond.methodLink RX7 177 yX3_freeCount, Cond.instanceMethod yX3_freeCount, Cond.selects RX3 yX3_freeCount yX3_freeCount, Cond.code yX3_freeCount cX3_freeCount 4 (some .int), Cond.methodLink RX3 97 yX3_size]
def wsX7_count_r2 : List Cond := [Cond.methodLink RX3 61 yX3_isFree, Cond.instanceMethod yX3_isFree, Cond.selects RX3 yX3_isFree yX3_isFree, Cond.code yX3_isFree cX3_isFree 2 (some .boolean), Cond.fieldLink RX3 21 "PolarTypes$Tree" "owners" "LPolarTypes$Row;", Cond.methodLink RX3 54 yX3_isNode, Cond.instanceMethod yX3_isNode, Cond.selects RX3 yX3_isNode yX3_isNode, Cond.code yX3_isNode cX3_isNode 2 (some .boolean), Cond.methodLink RX3 51 yX0_holds, Cond.instanceMethod yX0_holds, Cond.selects RX0 yX0_holds yX0_holds, Cond.initialized RX0, Cond.code yX0_holds cX0_holds 2 (some .boolean), Cond.fieldLink RX0 19 "PolarTypes$Row" "size" "I", Cond.methodLink RX3 57 yX0_get, Cond.instanceMethod yX0_get, Cond.selects RX0 yX0_get yX0_get, Cond.code yX0_get cX0_get 2 (some .int), Cond.fieldLink RX0 9 "PolarTypes$Row" "items" "[I"]
def wsX7_count : List Cond := .code yX7_count cX7_count 2 (some .int) :: ((wsX7_count_r1 ++ wsX7_count_r2) ++ wsX70 ++ wsX50 ++ wsX60 ++ wsX30 ++ wsX00 ++ wsX40)
def wsX7_digest_r1 : List Cond := [Cond.constantLong RX7 180 (17), Cond.fieldLink RX7 12 "PolarTypes" "tree" "LPolarTypes$Tree;", Cond.constantLong RX7 182 (31), Cond.fieldLink RX7 21 "PolarTypes" "typing" "LPolarTypes$Typing;", Cond.fieldLink RX7 127 "PolarTypes$Typing" "types" "LPolarTypes$Types;", Cond.methodLink RX7 171 yX3_size, Cond.instanceMethod yX3_size, Cond.selects RX3 yX3_size yX3_size, Cond.initialized RX3, Cond.code yX3_size cX3_size 1 (some .int), Cond.fieldLink RX3 12 "PolarTypes$Tree" "kinds" "LPolarTypes$Row;", Cond.fieldLink RX3 47 "PolarTypes$Row" "size" "I", Cond.methodLink RX7 184 yX7_told, Cond.instanceMethod yX7_told, Cond.selects RX7 yX7_told yX7_told, Cond.initialized RX7, Cond.code yX7_told cX7_told 3 (some .int), Cond.methodLink RX7 67 yX3_isNode, Cond.instanceMethod yX3_isNode, Cond.selects RX3 yX3_isNode yX3_isNode, Cond.code yX3_isNode cX3_isNode 2 (some .boolean), Cond.methodLink RX3 51 yX0_holds, Cond.instanceMethod yX0_holds, Cond.selects RX0 yX0_holds yX0_holds]
def wsX7_digest_r2 : List Cond := [Cond.initialized RX0, Cond.code yX0_holds cX0_holds 2 (some .boolean), Cond.fieldLink RX0 19 "PolarTypes$Row" "size" "I", Cond.methodLink RX7 79 yX3_kindOf, Cond.instanceMethod yX3_kindOf, Cond.selects RX3 yX3_kindOf yX3_kindOf, Cond.code yX3_kindOf cX3_kindOf 2 (some .int), Cond.methodLink RX3 57 yX0_get, Cond.instanceMethod yX0_get, Cond.selects RX0 yX0_get yX0_get, Cond.code yX0_get cX0_get 2 (some .int), Cond.fieldLink RX0 9 "PolarTypes$Row" "items" "[I", Cond.methodLink RX7 95 yX3_markOf, Cond.instanceMethod yX3_markOf, Cond.selects RX3 yX3_markOf yX3_markOf, Cond.code yX3_markOf cX3_markOf 2 (some .int), Cond.fieldLink RX3 18 "PolarTypes$Tree" "marks" "LPolarTypes$Row;", Cond.methodLink RX7 85 yX3_partCount, Cond.instanceMethod yX3_partCount, Cond.selects RX3 yX3_partCount yX3_partCount, Cond.code yX3_partCount cX3_partCount 2 (some .int), Cond.fieldLink RX3 24 "PolarTypes$Tree" "partCounts" "LPolarTypes$Row;", Cond.methodLink RX3 82 Lib.Math.max.name, Cond.static Lib.Math.max.name]
def wsX7_digest_r3 : List Cond := [Cond.initialized "java/lang/Math", Cond.code Lib.Math.max.name Lib.Math.max.code 2 (some .int), Cond.methodLink RX7 98 yX3_ownerOf, Cond.instanceMethod yX3_ownerOf, Cond.selects RX3 yX3_ownerOf yX3_ownerOf, Cond.code yX3_ownerOf cX3_ownerOf 2 (some .int), Cond.fieldLink RX3 21 "PolarTypes$Tree" "owners" "LPolarTypes$Row;", Cond.methodLink RX7 101 yX3_partOf, Cond.instanceMethod yX3_partOf, Cond.selects RX3 yX3_partOf yX3_partOf, Cond.code yX3_partOf cX3_partOf 3 (some .int), Cond.fieldLink RX3 27 "PolarTypes$Tree" "parts" "LPolarTypes$Row;", Cond.methodLink RX7 105 yX3_labelOf, Cond.instanceMethod yX3_labelOf, Cond.selects RX3 yX3_labelOf yX3_labelOf, Cond.code yX3_labelOf cX3_labelOf 3 (some .int), Cond.fieldLink RX3 30 "PolarTypes$Tree" "labels" "LPolarTypes$Row;", Cond.methodLink RX7 174 yX4_variableCount, Cond.instanceMethod yX4_variableCount, Cond.selects RX4 yX4_variableCount yX4_variableCount, Cond.initialized RX4, Cond.code yX4_variableCount cX4_variableCount 1 (some .int), Cond.fieldLink RX4 39 "PolarTypes$Types" "variables" "LPolarTypes$Row;", Cond.fieldLink RX4 69 "PolarTypes$Row" "size" "I"]
def wsX7_digest_r4 : List Cond := [Cond.methodLink RX7 187 yX7_variable, Cond.instanceMethod yX7_variable, Cond.selects RX7 yX7_variable yX7_variable, Cond.code yX7_variable cX7_variable 4 (some .int), Cond.fieldLink RX7 143 "PolarTypes$Row" "size" "I", Cond.methodLink RX7 131 yX4_ofVariable, Cond.instanceMethod yX4_ofVariable, Cond.selects RX4 yX4_ofVariable yX4_ofVariable, Cond.code yX4_ofVariable cX4_ofVariable 2 (some .int), Cond.methodLink RX4 89 yX0_get, Cond.methodLink RX7 136 yX4_levelOf, Cond.instanceMethod yX4_levelOf, Cond.selects RX4 yX4_levelOf yX4_levelOf, Cond.code yX4_levelOf cX4_levelOf 2 (some .int), Cond.fieldLink RX4 18 "PolarTypes$Types" "levels" "LPolarTypes$Row;", Cond.methodLink RX7 139 yX4_boundsOf, Cond.instanceMethod yX4_boundsOf, Cond.selects RX4 yX4_boundsOf yX4_boundsOf, Cond.code yX4_boundsOf cX4_boundsOf 5 (some (.object "PolarTypes$Row")), Cond.fieldLink RX4 21 "PolarTypes$Types" "firsts" "LPolarTypes$Row;", Cond.fieldLink RX4 12 "PolarTypes$Types" "sorts" "LPolarTypes$Row;", Cond.fieldLink RX4 42 "PolarTypes$Types" "bounds" "[LPolarTypes$Row;", Cond.fieldLink RX4 46 "PolarTypes$Types" "noBounds" "LPolarTypes$Row;"]
def wsX7_digest : List Cond := .code yX7_digest cX7_digest 7 (some .long) :: ((wsX7_digest_r1 ++ (wsX7_digest_r2 ++ (wsX7_digest_r3 ++ wsX7_digest_r4))) ++ wsX70 ++ wsX50 ++ wsX30 ++ wsX00 ++ wsX40)
def wsX8_init_r1 : List Cond := [Cond.methodLink RX8 1 objectInit, Cond.instanceMethod objectInit, Cond.code objectInit ⟨#[0xb1]⟩ 1 none, Cond.arrayClass .int, Cond.fieldLink RX8 7 "PolarTypesModel" "kindOf" "[I", Cond.fieldLink RX8 13 "PolarTypesModel" "valueOf" "[I", Cond.fieldLink RX8 16 "PolarTypesModel" "partMany" "[I", Cond.fieldLink RX8 19 "PolarTypesModel" "parts" "[I", Cond.fieldLink RX8 22 "PolarTypesModel" "labels" "[I", Cond.fieldLink RX8 25 "PolarTypesModel" "up" "[I", Cond.fieldLink RX8 28 "PolarTypesModel" "sortOf" "[I", Cond.fieldLink RX8 31 "PolarTypesModel" "levelOf" "[I", Cond.fieldLink RX8 34 "PolarTypesModel" "one" "[I", Cond.fieldLink RX8 37 "PolarTypesModel" "two" "[I", Cond.fieldLink RX8 40 "PolarTypesModel" "rowLabel" "[I", Cond.fieldLink RX8 43 "PolarTypesModel" "rowType" "[I", Cond.fieldLink RX8 46 "PolarTypesModel" "variableType" "[I", Cond.constant RX8 49 (200000), Cond.fieldLink RX8 50 "PolarTypesModel" "boundType" "[I", Cond.fieldLink RX8 53 "PolarTypesModel" "boundNext" "[I", Cond.fieldLink RX8 56 "PolarTypesModel" "firstBound" "[I", Cond.fieldLink RX8 59 "PolarTypesModel" "lastBound" "[I", Cond.fieldLink RX8 62 "PolarTypesModel" "boundMany" "[I", Cond.fieldLink RX8 65 "PolarTypesModel" "askedA" "[I"]
def wsX8_init_r2 : List Cond := [Cond.fieldLink RX8 68 "PolarTypesModel" "askedB" "[I", Cond.fieldLink RX8 71 "PolarTypesModel" "liftedBy" "[I", Cond.fieldLink RX8 74 "PolarTypesModel" "lifted" "[I", Cond.fieldLink RX8 77 "PolarTypesModel" "held" "[I", Cond.fieldLink RX8 80 "PolarTypesModel" "anewBy" "[I", Cond.fieldLink RX8 83 "PolarTypesModel" "anewType" "[I", Cond.fieldLink RX8 86 "PolarTypesModel" "gave" "[I", Cond.fieldLink RX8 89 "PolarTypesModel" "scheme" "[I", Cond.arrayClass .byte, Cond.fieldLink RX8 92 "PolarTypesModel" "bytes" "[B", Cond.arrayClass .boolean, Cond.fieldLink RX8 96 "PolarTypesModel" "isWithin" "[Z", Cond.fieldLink RX8 100 "PolarTypesModel" "figures" "[I", Cond.fieldLink RX8 103 "PolarTypesModel" "vIs" "[I", Cond.fieldLink RX8 106 "PolarTypesModel" "vN" "[I", Cond.fieldLink RX8 109 "PolarTypesModel" "vEnv" "[I", Cond.fieldLink RX8 112 "PolarTypesModel" "vParts" "[I", Cond.fieldLink RX8 115 "PolarTypesModel" "eName" "[I", Cond.fieldLink RX8 118 "PolarTypesModel" "eValue" "[I", Cond.fieldLink RX8 121 "PolarTypesModel" "eRec" "[I", Cond.fieldLink RX8 124 "PolarTypesModel" "eNext" "[I", Cond.fieldLink RX8 127 "PolarTypesModel" "where" "I", Cond.fieldLink RX8 131 "PolarTypesModel" "outcome" "I", Cond.fieldLink RX8 134 "PolarTypesModel" "stuck" "I"]
def wsX8_init : List Cond := .code yX8_init cX8_init 1 none :: ((wsX8_init_r1 ++ wsX8_init_r2) ++ wsX80)
def wsX8_in : List Cond := .code yX8_in cX8_in 3 (some .boolean) :: ([])
def wsX8_isNode : List Cond := .code yX8_isNode cX8_isNode 2 (some .boolean) :: ([.fieldLink RX8 137 "PolarTypesModel" "nodes" "I", .methodLink RX8 140 yX8_in, .static yX8_in, .initialized RX8, .code yX8_in cX8_in 3 (some .boolean)] ++ wsX80)
def wsX8_partsOf : List Cond := .code yX8_partsOf cX8_partsOf 1 (some .int) :: ([])
def wsX8_hasName : List Cond := .code yX8_hasName cX8_hasName 1 (some .boolean) :: ([])
def wsX8_isFree : List Cond := .code yX8_isFree cX8_isFree 2 (some .boolean) :: ([.fieldLink RX8 25 "PolarTypesModel" "up" "[I", .methodLink RX8 144 yX8_isNode, .instanceMethod yX8_isNode, .selects RX8 yX8_isNode yX8_isNode, .initialized RX8, .code yX8_isNode cX8_isNode 2 (some .boolean), .fieldLink RX8 137 "PolarTypesModel" "nodes" "I", .methodLink RX8 140 yX8_in, .static yX8_in, .code yX8_in cX8_in 3 (some .boolean)] ++ wsX80)
def wsX8_node_r1 : List Cond := [Cond.fieldLink RX8 137 "PolarTypesModel" "nodes" "I", Cond.fieldLink RX8 7 "PolarTypesModel" "kindOf" "[I", Cond.fieldLink RX8 13 "PolarTypesModel" "valueOf" "[I", Cond.fieldLink RX8 16 "PolarTypesModel" "partMany" "[I", Cond.fieldLink RX8 25 "PolarTypesModel" "up" "[I", Cond.fieldLink RX8 19 "PolarTypesModel" "parts" "[I", Cond.fieldLink RX8 22 "PolarTypesModel" "labels" "[I", Cond.methodLink RX8 140 yX8_in, Cond.static yX8_in, Cond.initialized RX8, Cond.code yX8_in cX8_in 3 (some .boolean), Cond.methodLink RX8 148 yX8_hasName, Cond.static yX8_hasName, Cond.code yX8_hasName cX8_hasName 1 (some .boolean), Cond.methodLink RX8 151 yX8_partsOf, Cond.static yX8_partsOf, Cond.code yX8_partsOf cX8_partsOf 1 (some .int), Cond.methodLink RX8 155 yX8_isFree, Cond.instanceMethod yX8_isFree, Cond.selects RX8 yX8_isFree yX8_isFree, Cond.code yX8_isFree cX8_isFree 2 (some .boolean), Cond.methodLink RX8 144 yX8_isNode, Cond.instanceMethod yX8_isNode, Cond.selects RX8 yX8_isNode yX8_isNode]
def wsX8_node_r2 : List Cond := [Cond.code yX8_isNode cX8_isNode 2 (some .boolean)]
def wsX8_node : List Cond := .code yX8_node cX8_node 8 (some .int) :: ((wsX8_node_r1 ++ wsX8_node_r2) ++ wsX80)
def wsX8_field_r1 : List Cond := [Cond.fieldLink RX8 7 "PolarTypesModel" "kindOf" "[I", Cond.fieldLink RX8 16 "PolarTypesModel" "partMany" "[I", Cond.fieldLink RX8 19 "PolarTypesModel" "parts" "[I", Cond.fieldLink RX8 22 "PolarTypesModel" "labels" "[I", Cond.fieldLink RX8 25 "PolarTypesModel" "up" "[I", Cond.methodLink RX8 144 yX8_isNode, Cond.instanceMethod yX8_isNode, Cond.selects RX8 yX8_isNode yX8_isNode, Cond.initialized RX8, Cond.code yX8_isNode cX8_isNode 2 (some .boolean), Cond.fieldLink RX8 137 "PolarTypesModel" "nodes" "I", Cond.methodLink RX8 140 yX8_in, Cond.static yX8_in, Cond.code yX8_in cX8_in 3 (some .boolean), Cond.methodLink RX8 155 yX8_isFree, Cond.instanceMethod yX8_isFree, Cond.selects RX8 yX8_isFree yX8_isFree, Cond.code yX8_isFree cX8_isFree 2 (some .boolean), Cond.methodLink RX8 158 yX8_isWithin, Cond.instanceMethod yX8_isWithin, Cond.selects RX8 yX8_isWithin yX8_isWithin, Cond.code yX8_isWithin cX8_isWithin 4 (some .boolean), Cond.methodLink RX8 161 yX8_placeOf, Cond.instanceMethod yX8_placeOf]
def wsX8_field_r2 : List Cond := [Cond.selects RX8 yX8_placeOf yX8_placeOf, Cond.code yX8_placeOf cX8_placeOf 4 (some .int), Cond.methodLink RX8 165 yX8_forgetTypes, Cond.instanceMethod yX8_forgetTypes, Cond.selects RX8 yX8_forgetTypes yX8_forgetTypes, Cond.code yX8_forgetTypes cX8_forgetTypes 1 none, Cond.fieldLink RX8 168 "PolarTypesModel" "types" "I", Cond.fieldLink RX8 171 "PolarTypesModel" "variables" "I", Cond.fieldLink RX8 174 "PolarTypesModel" "bounds" "I", Cond.fieldLink RX8 177 "PolarTypesModel" "isTyped" "Z", Cond.fieldLink RX8 127 "PolarTypesModel" "where" "I", Cond.fieldLink RX8 181 "PolarTypesModel" "steps" "I", Cond.fieldLink RX8 184 "PolarTypesModel" "stop" "I", Cond.fieldLink RX8 187 "PolarTypesModel" "askedMany" "I", Cond.fieldLink RX8 190 "PolarTypesModel" "deepUnder" "I", Cond.fieldLink RX8 193 "PolarTypesModel" "deepLift" "I", Cond.fieldLink RX8 196 "PolarTypesModel" "deepAnew" "I", Cond.fieldLink RX8 199 "PolarTypesModel" "deepTyping" "I"]
def wsX8_field : List Cond := .code yX8_field cX8_field 6 (some .int) :: ((wsX8_field_r1 ++ wsX8_field_r2) ++ wsX80)
def wsX8_told : List Cond := .code yX8_told cX8_told 3 (some .int) :: ([.fieldLink RX8 7 "PolarTypesModel" "kindOf" "[I", .fieldLink RX8 13 "PolarTypesModel" "valueOf" "[I", .fieldLink RX8 16 "PolarTypesModel" "partMany" "[I", .fieldLink RX8 25 "PolarTypesModel" "up" "[I", .fieldLink RX8 19 "PolarTypesModel" "parts" "[I", .fieldLink RX8 22 "PolarTypesModel" "labels" "[I", .methodLink RX8 144 yX8_isNode, .instanceMethod yX8_isNode, .selects RX8 yX8_isNode yX8_isNode, .initialized RX8, .code yX8_isNode cX8_isNode 2 (some .boolean), .fieldLink RX8 137 "PolarTypesModel" "nodes" "I", .methodLink RX8 140 yX8_in, .static yX8_in, .code yX8_in cX8_in 3 (some .boolean)] ++ wsX80)
def wsX8_type_r1 : List Cond := [Cond.fieldLink RX8 28 "PolarTypesModel" "sortOf" "[I", Cond.fieldLink RX8 31 "PolarTypesModel" "levelOf" "[I", Cond.fieldLink RX8 232 "PolarTypesModel" "lifts" "I", Cond.fieldLink RX8 264 "PolarTypesModel" "anews" "I", Cond.fieldLink RX8 254 "PolarTypesModel" "heldMany" "I", Cond.fieldLink RX8 71 "PolarTypesModel" "liftedBy" "[I", Cond.fieldLink RX8 80 "PolarTypesModel" "anewBy" "[I", Cond.fieldLink RX8 269 "PolarTypesModel" "top" "I", Cond.fieldLink RX8 202 "PolarTypesModel" "asking" "I", Cond.fieldLink RX8 295 "PolarTypesModel" "answer" "I", Cond.fieldLink RX8 184 "PolarTypesModel" "stop" "I", Cond.fieldLink RX8 177 "PolarTypesModel" "isTyped" "Z", Cond.fieldLink RX8 171 "PolarTypesModel" "variables" "I", Cond.methodLink RX8 144 yX8_isNode, Cond.instanceMethod yX8_isNode, Cond.selects RX8 yX8_isNode yX8_isNode, Cond.initialized RX8, Cond.code yX8_isNode cX8_isNode 2 (some .boolean), Cond.fieldLink RX8 137 "PolarTypesModel" "nodes" "I", Cond.methodLink RX8 140 yX8_in, Cond.static yX8_in, Cond.code yX8_in cX8_in 3 (some .boolean), Cond.methodLink RX8 165 yX8_forgetTypes, Cond.instanceMethod yX8_forgetTypes]
def wsX8_type_r2 : List Cond := [Cond.selects RX8 yX8_forgetTypes yX8_forgetTypes, Cond.code yX8_forgetTypes cX8_forgetTypes 1 none, Cond.fieldLink RX8 168 "PolarTypesModel" "types" "I", Cond.fieldLink RX8 174 "PolarTypesModel" "bounds" "I", Cond.fieldLink RX8 127 "PolarTypesModel" "where" "I", Cond.fieldLink RX8 181 "PolarTypesModel" "steps" "I", Cond.fieldLink RX8 187 "PolarTypesModel" "askedMany" "I", Cond.fieldLink RX8 190 "PolarTypesModel" "deepUnder" "I", Cond.fieldLink RX8 193 "PolarTypesModel" "deepLift" "I", Cond.fieldLink RX8 196 "PolarTypesModel" "deepAnew" "I", Cond.fieldLink RX8 199 "PolarTypesModel" "deepTyping" "I", Cond.methodLink RX8 280 yX8_typing, Cond.instanceMethod yX8_typing, Cond.selects RX8 yX8_typing yX8_typing, Cond.code yX8_typing cX8_typing 4 (some .int), Cond.methodLink RX8 205 yX8_stops, Cond.instanceMethod yX8_stops, Cond.selects RX8 yX8_stops yX8_stops, Cond.code yX8_stops cX8_stops 3 none, Cond.methodLink RX8 272 yX8_types, Cond.instanceMethod yX8_types, Cond.selects RX8 yX8_types yX8_types, Cond.code yX8_typeOfRecord cX8_typeOfRecord 5 (some .int), Cond.fieldLink RX8 16 "PolarTypesModel" "partMany" "[I"]
def wsX8_type_r3 : List Cond := [Cond.fieldLink RX8 77 "PolarTypesModel" "held" "[I", Cond.fieldLink RX8 19 "PolarTypesModel" "parts" "[I", Cond.fieldLink RX8 22 "PolarTypesModel" "labels" "[I", Cond.methodLink RX8 257 yX8_row, Cond.instanceMethod yX8_row, Cond.selects RX8 yX8_row yX8_row, Cond.code yX8_row cX8_row 2 (some .int), Cond.fieldLink RX8 34 "PolarTypesModel" "one" "[I", Cond.methodLink RX8 209 yX8_newType, Cond.instanceMethod yX8_newType, Cond.selects RX8 yX8_newType yX8_newType, Cond.code yX8_newType cX8_newType 3 (some .int), Cond.methodLink RX8 261 yX8_addTo, Cond.instanceMethod yX8_addTo, Cond.selects RX8 yX8_addTo yX8_addTo, Cond.code yX8_addTo cX8_addTo 4 none, Cond.fieldLink RX8 40 "PolarTypesModel" "rowLabel" "[I", Cond.fieldLink RX8 43 "PolarTypesModel" "rowType" "[I", Cond.code yX8_types cX8_types 9 (some .int), Cond.fieldLink RX8 7 "PolarTypesModel" "kindOf" "[I", Cond.fieldLink RX8 86 "PolarTypesModel" "gave" "[I", Cond.fieldLink RX8 89 "PolarTypesModel" "scheme" "[I", Cond.fieldLink RX8 13 "PolarTypesModel" "valueOf" "[I", Cond.methodLink RX8 274 yX8_typeOfName]
def wsX8_type_r4 : List Cond := [Cond.instanceMethod yX8_typeOfName, Cond.selects RX8 yX8_typeOfName yX8_typeOfName, Cond.code yX8_typeOfName cX8_typeOfName 4 (some .int), Cond.methodLink RX8 289 yX8_binderOf, Cond.instanceMethod yX8_binderOf, Cond.selects RX8 yX8_binderOf yX8_binderOf, Cond.code yX8_binderOf cX8_binderOf 7 (some .int), Cond.fieldLink RX8 25 "PolarTypesModel" "up" "[I", Cond.methodLink RX8 292 yX8_beginAnew, Cond.instanceMethod yX8_beginAnew, Cond.selects RX8 yX8_beginAnew yX8_beginAnew, Cond.code yX8_beginAnew cX8_beginAnew 4 (some .int), Cond.methodLink RX8 251 yX8_anew, Cond.instanceMethod yX8_anew, Cond.selects RX8 yX8_anew yX8_anew, Cond.code yX8_anew cX8_anew 5 (some .int), Cond.methodLink RX8 267 yX8_anews, Cond.instanceMethod yX8_anews, Cond.selects RX8 yX8_anews yX8_anews, Cond.code yX8_anews cX8_anews 11 (some .int), Cond.fieldLink RX8 37 "PolarTypesModel" "two" "[I", Cond.fieldLink RX8 83 "PolarTypesModel" "anewType" "[I", Cond.fieldLink RX8 62 "PolarTypesModel" "boundMany" "[I", Cond.fieldLink RX8 56 "PolarTypesModel" "firstBound" "[I"]
def wsX8_type_r5 : List Cond := [Cond.fieldLink RX8 50 "PolarTypesModel" "boundType" "[I", Cond.fieldLink RX8 53 "PolarTypesModel" "boundNext" "[I", Cond.methodLink RX8 241 yX8_arrow, Cond.instanceMethod yX8_arrow, Cond.selects RX8 yX8_arrow yX8_arrow, Cond.code yX8_arrow cX8_arrow 4 (some .int), Cond.methodLink RX8 244 yX8_ofParts, Cond.instanceMethod yX8_ofParts, Cond.selects RX8 yX8_ofParts yX8_ofParts, Cond.methodLink RX8 248 yX8_newVariable, Cond.instanceMethod yX8_newVariable, Cond.selects RX8 yX8_newVariable yX8_newVariable, Cond.code yX8_newVariable cX8_newVariable 4 (some .int), Cond.fieldLink RX8 46 "PolarTypesModel" "variableType" "[I", Cond.fieldLink RX8 59 "PolarTypesModel" "lastBound" "[I", Cond.methodLink RX8 224 yX8_bind, Cond.instanceMethod yX8_bind, Cond.selects RX8 yX8_bind yX8_bind, Cond.code yX8_bind cX8_bind 5 none, Cond.code yX8_lift cX8_lift 6 (some .int), Cond.methodLink RX8 239 yX8_lifts, Cond.instanceMethod yX8_lifts, Cond.selects RX8 yX8_lifts yX8_lifts, Cond.code yX8_lifts cX8_lifts 11 (some .int)]
def wsX8_type_r6 : List Cond := [Cond.fieldLink RX8 74 "PolarTypesModel" "lifted" "[I", Cond.methodLink RX8 235 yX8_lift, Cond.instanceMethod yX8_lift, Cond.selects RX8 yX8_lift yX8_lift, Cond.code yX8_ofParts cX8_ofParts 8 (some .int), Cond.methodLink RX8 277 yX8_fresh, Cond.instanceMethod yX8_fresh, Cond.selects RX8 yX8_fresh yX8_fresh, Cond.code yX8_fresh cX8_fresh 3 (some .int), Cond.methodLink RX8 283 yX8_puts, Cond.instanceMethod yX8_puts, Cond.selects RX8 yX8_puts yX8_puts, Cond.code yX8_puts cX8_puts 4 none, Cond.methodLink RX8 218 yX8_under, Cond.instanceMethod yX8_under, Cond.selects RX8 yX8_under yX8_under, Cond.code yX8_under cX8_under 3 none, Cond.fieldLink RX8 65 "PolarTypesModel" "askedA" "[I", Cond.fieldLink RX8 68 "PolarTypesModel" "askedB" "[I", Cond.methodLink RX8 212 yX8_wasAsked, Cond.instanceMethod yX8_wasAsked, Cond.selects RX8 yX8_wasAsked yX8_wasAsked, Cond.code yX8_wasAsked cX8_wasAsked 4 (some .boolean), Cond.methodLink RX8 215 yX8_asks]
def wsX8_type_r7 : List Cond := [Cond.instanceMethod yX8_asks, Cond.selects RX8 yX8_asks yX8_asks, Cond.code yX8_asks cX8_asks 8 none, Cond.methodLink RX8 221 yX8_labelAt, Cond.instanceMethod yX8_labelAt, Cond.selects RX8 yX8_labelAt yX8_labelAt, Cond.code yX8_labelAt cX8_labelAt 4 (some .int), Cond.methodLink RX8 228 yX8_beginLift, Cond.instanceMethod yX8_beginLift, Cond.selects RX8 yX8_beginLift yX8_beginLift, Cond.code yX8_beginLift cX8_beginLift 4 (some .int), Cond.methodLink RX8 286 yX8_typeOfRecord, Cond.instanceMethod yX8_typeOfRecord, Cond.selects RX8 yX8_typeOfRecord yX8_typeOfRecord]
def wsX8_type : List Cond := .code yX8_type cX8_type 3 (some .int) :: ((wsX8_type_r1 ++ (wsX8_type_r2 ++ (wsX8_type_r3 ++ (wsX8_type_r4 ++ (wsX8_type_r5 ++ (wsX8_type_r6 ++ wsX8_type_r7)))))) ++ wsX80)
def wsX8_where : List Cond := .code yX8_where cX8_where 1 (some .int) :: ([.fieldLink RX8 127 "PolarTypesModel" "where" "I"] ++ wsX80)
def wsX8_steps : List Cond := .code yX8_steps cX8_steps 1 (some .int) :: ([.fieldLink RX8 181 "PolarTypesModel" "steps" "I"] ++ wsX80)
def wsX8_sign_r1 : List Cond := [Cond.fieldLink RX8 177 "PolarTypesModel" "isTyped" "Z", Cond.fieldLink RX8 295 "PolarTypesModel" "answer" "I", Cond.methodLink RX8 319 yX8_toldAs, Cond.instanceMethod yX8_toldAs, Cond.selects RX8 yX8_toldAs yX8_toldAs, Cond.initialized RX8, Cond.code yX8_toldAs cX8_toldAs 5 (some .int), Cond.fieldLink RX8 298 "PolarTypesModel" "byteMany" "I", Cond.fieldLink RX8 301 "PolarTypesModel" "most" "I", Cond.fieldLink RX8 96 "PolarTypesModel" "isWithin" "[Z", Cond.fieldLink RX8 92 "PolarTypesModel" "bytes" "[B", Cond.methodLink RX8 310 yX8_tell, Cond.instanceMethod yX8_tell, Cond.selects RX8 yX8_tell yX8_tell, Cond.code yX8_tell cX8_tell 4 none, Cond.fieldLink RX8 28 "PolarTypesModel" "sortOf" "[I", Cond.fieldLink RX8 34 "PolarTypesModel" "one" "[I", Cond.fieldLink RX8 37 "PolarTypesModel" "two" "[I", Cond.fieldLink RX8 40 "PolarTypesModel" "rowLabel" "[I", Cond.fieldLink RX8 43 "PolarTypesModel" "rowType" "[I", Cond.methodLink RX8 304 yX8_out, Cond.instanceMethod yX8_out, Cond.selects RX8 yX8_out yX8_out, Cond.code yX8_out cX8_out 2 none]
def wsX8_sign_r2 : List Cond := [Cond.methodLink RX8 313 yX8_tellVariable, Cond.instanceMethod yX8_tellVariable, Cond.selects RX8 yX8_tellVariable yX8_tellVariable, Cond.code yX8_tellVariable cX8_tellVariable 7 none, Cond.fieldLink RX8 62 "PolarTypesModel" "boundMany" "[I", Cond.fieldLink RX8 56 "PolarTypesModel" "firstBound" "[I", Cond.fieldLink RX8 50 "PolarTypesModel" "boundType" "[I", Cond.fieldLink RX8 53 "PolarTypesModel" "boundNext" "[I", Cond.methodLink RX8 316 yX8_outNumber, Cond.instanceMethod yX8_outNumber, Cond.selects RX8 yX8_outNumber yX8_outNumber, Cond.code yX8_outNumber cX8_outNumber 6 none, Cond.fieldLink RX8 100 "PolarTypesModel" "figures" "[I", Cond.constantLong RX8 308 (10), Cond.methodLink RX8 140 yX8_in, Cond.static yX8_in, Cond.code yX8_in cX8_in 3 (some .boolean)]
def wsX8_sign : List Cond := .code yX8_sign cX8_sign 2 (some .int) :: ((wsX8_sign_r1 ++ wsX8_sign_r2) ++ wsX80)
def wsX8_isVariable : List Cond := .code yX8_isVariable cX8_isVariable 2 (some .boolean) :: ([.fieldLink RX8 171 "PolarTypesModel" "variables" "I", .methodLink RX8 140 yX8_in, .static yX8_in, .initialized RX8, .code yX8_in cX8_in 3 (some .boolean)] ++ wsX80)
def wsX8_variable : List Cond := .code yX8_variable cX8_variable 3 (some .int) :: ([.fieldLink RX8 31 "PolarTypesModel" "levelOf" "[I", .fieldLink RX8 46 "PolarTypesModel" "variableType" "[I", .fieldLink RX8 62 "PolarTypesModel" "boundMany" "[I", .methodLink RX8 322 yX8_isVariable, .instanceMethod yX8_isVariable, .selects RX8 yX8_isVariable yX8_isVariable, .initialized RX8, .code yX8_isVariable cX8_isVariable 2 (some .boolean), .fieldLink RX8 171 "PolarTypesModel" "variables" "I", .methodLink RX8 140 yX8_in, .static yX8_in, .code yX8_in cX8_in 3 (some .boolean)] ++ wsX80)
def wsX8_bound_r1 : List Cond := [Cond.fieldLink RX8 62 "PolarTypesModel" "boundMany" "[I", Cond.fieldLink RX8 56 "PolarTypesModel" "firstBound" "[I", Cond.fieldLink RX8 53 "PolarTypesModel" "boundNext" "[I", Cond.fieldLink RX8 50 "PolarTypesModel" "boundType" "[I", Cond.methodLink RX8 322 yX8_isVariable, Cond.instanceMethod yX8_isVariable, Cond.selects RX8 yX8_isVariable yX8_isVariable, Cond.initialized RX8, Cond.code yX8_isVariable cX8_isVariable 2 (some .boolean), Cond.fieldLink RX8 171 "PolarTypesModel" "variables" "I", Cond.methodLink RX8 140 yX8_in, Cond.static yX8_in, Cond.code yX8_in cX8_in 3 (some .boolean), Cond.methodLink RX8 319 yX8_toldAs, Cond.instanceMethod yX8_toldAs, Cond.selects RX8 yX8_toldAs yX8_toldAs, Cond.code yX8_toldAs cX8_toldAs 5 (some .int), Cond.fieldLink RX8 298 "PolarTypesModel" "byteMany" "I", Cond.fieldLink RX8 301 "PolarTypesModel" "most" "I", Cond.fieldLink RX8 96 "PolarTypesModel" "isWithin" "[Z", Cond.fieldLink RX8 92 "PolarTypesModel" "bytes" "[B", Cond.methodLink RX8 310 yX8_tell, Cond.instanceMethod yX8_tell, Cond.selects RX8 yX8_tell yX8_tell]
def wsX8_bound_r2 : List Cond := [Cond.code yX8_tell cX8_tell 4 none, Cond.fieldLink RX8 28 "PolarTypesModel" "sortOf" "[I", Cond.fieldLink RX8 34 "PolarTypesModel" "one" "[I", Cond.fieldLink RX8 37 "PolarTypesModel" "two" "[I", Cond.fieldLink RX8 40 "PolarTypesModel" "rowLabel" "[I", Cond.fieldLink RX8 43 "PolarTypesModel" "rowType" "[I", Cond.methodLink RX8 304 yX8_out, Cond.instanceMethod yX8_out, Cond.selects RX8 yX8_out yX8_out, Cond.code yX8_out cX8_out 2 none, Cond.methodLink RX8 313 yX8_tellVariable, Cond.instanceMethod yX8_tellVariable, Cond.selects RX8 yX8_tellVariable yX8_tellVariable, Cond.code yX8_tellVariable cX8_tellVariable 7 none, Cond.methodLink RX8 316 yX8_outNumber, Cond.instanceMethod yX8_outNumber, Cond.selects RX8 yX8_outNumber yX8_outNumber, Cond.code yX8_outNumber cX8_outNumber 6 none, Cond.fieldLink RX8 100 "PolarTypesModel" "figures" "[I", Cond.constantLong RX8 308 (10)]
def wsX8_bound : List Cond := .code yX8_bound cX8_bound 8 (some .int) :: ((wsX8_bound_r1 ++ wsX8_bound_r2) ++ wsX80)
def wsX8_work_r1 : List Cond := [Cond.fieldLink RX8 325 "PolarTypesModel" "values" "I", Cond.fieldLink RX8 328 "PolarTypesModel" "envs" "I", Cond.fieldLink RX8 334 "PolarTypesModel" "worked" "I", Cond.fieldLink RX8 337 "PolarTypesModel" "mostSteps" "I", Cond.fieldLink RX8 340 "PolarTypesModel" "deep" "I", Cond.fieldLink RX8 331 "PolarTypesModel" "goes" "Z", Cond.fieldLink RX8 131 "PolarTypesModel" "outcome" "I", Cond.fieldLink RX8 134 "PolarTypesModel" "stuck" "I", Cond.fieldLink RX8 361 "PolarTypesModel" "result" "I", Cond.methodLink RX8 144 yX8_isNode, Cond.instanceMethod yX8_isNode, Cond.selects RX8 yX8_isNode yX8_isNode, Cond.initialized RX8, Cond.code yX8_isNode cX8_isNode 2 (some .boolean), Cond.fieldLink RX8 137 "PolarTypesModel" "nodes" "I", Cond.methodLink RX8 140 yX8_in, Cond.static yX8_in, Cond.code yX8_in cX8_in 3 (some .boolean), Cond.methodLink RX8 355 yX8_does, Cond.instanceMethod yX8_does, Cond.selects RX8 yX8_does yX8_does, Cond.code yX8_does cX8_does 4 (some .int), Cond.methodLink RX8 343 yX8_halts, Cond.instanceMethod yX8_halts]
def wsX8_work_r2 : List Cond := [Cond.selects RX8 yX8_halts yX8_halts, Cond.code yX8_halts cX8_halts 3 (some .int), Cond.methodLink RX8 346 yX8_doing, Cond.instanceMethod yX8_doing, Cond.selects RX8 yX8_doing yX8_doing, Cond.code yX8_doing cX8_doing 7 (some .int), Cond.fieldLink RX8 19 "PolarTypesModel" "parts" "[I", Cond.fieldLink RX8 7 "PolarTypesModel" "kindOf" "[I", Cond.fieldLink RX8 13 "PolarTypesModel" "valueOf" "[I", Cond.fieldLink RX8 103 "PolarTypesModel" "vIs" "[I", Cond.fieldLink RX8 106 "PolarTypesModel" "vN" "[I", Cond.fieldLink RX8 109 "PolarTypesModel" "vEnv" "[I", Cond.fieldLink RX8 16 "PolarTypesModel" "partMany" "[I", Cond.fieldLink RX8 112 "PolarTypesModel" "vParts" "[I", Cond.methodLink RX8 349 yX8_made, Cond.instanceMethod yX8_made, Cond.selects RX8 yX8_made yX8_made, Cond.code yX8_made cX8_made 4 (some .int), Cond.methodLink RX8 352 yX8_seen, Cond.instanceMethod yX8_seen, Cond.selects RX8 yX8_seen yX8_seen, Cond.methodLink RX8 358 yX8_env, Cond.instanceMethod yX8_env, Cond.selects RX8 yX8_env yX8_env]
def wsX8_work_r3 : List Cond := [Cond.code yX8_env cX8_env 5 (some .int), Cond.fieldLink RX8 115 "PolarTypesModel" "eName" "[I", Cond.fieldLink RX8 118 "PolarTypesModel" "eValue" "[I", Cond.fieldLink RX8 121 "PolarTypesModel" "eRec" "[I", Cond.fieldLink RX8 124 "PolarTypesModel" "eNext" "[I", Cond.methodLink RX8 161 yX8_placeOf, Cond.instanceMethod yX8_placeOf, Cond.selects RX8 yX8_placeOf yX8_placeOf, Cond.code yX8_placeOf cX8_placeOf 4 (some .int), Cond.fieldLink RX8 22 "PolarTypesModel" "labels" "[I", Cond.code yX8_seen cX8_seen 4 (some .int)]
def wsX8_work : List Cond := .code yX8_work cX8_work 3 (some .int) :: ((wsX8_work_r1 ++ (wsX8_work_r2 ++ wsX8_work_r3)) ++ wsX80)
def wsX8_value_r1 : List Cond := [Cond.fieldLink RX8 131 "PolarTypesModel" "outcome" "I", Cond.fieldLink RX8 298 "PolarTypesModel" "byteMany" "I", Cond.fieldLink RX8 301 "PolarTypesModel" "most" "I", Cond.fieldLink RX8 361 "PolarTypesModel" "result" "I", Cond.fieldLink RX8 92 "PolarTypesModel" "bytes" "[B", Cond.methodLink RX8 364 yX8_tellValue, Cond.instanceMethod yX8_tellValue, Cond.selects RX8 yX8_tellValue yX8_tellValue, Cond.initialized RX8, Cond.code yX8_tellValue cX8_tellValue 3 none, Cond.fieldLink RX8 103 "PolarTypesModel" "vIs" "[I", Cond.fieldLink RX8 106 "PolarTypesModel" "vN" "[I", Cond.fieldLink RX8 109 "PolarTypesModel" "vEnv" "[I", Cond.fieldLink RX8 22 "PolarTypesModel" "labels" "[I", Cond.fieldLink RX8 112 "PolarTypesModel" "vParts" "[I", Cond.methodLink RX8 316 yX8_outNumber, Cond.instanceMethod yX8_outNumber, Cond.selects RX8 yX8_outNumber yX8_outNumber, Cond.code yX8_outNumber cX8_outNumber 6 none, Cond.fieldLink RX8 100 "PolarTypesModel" "figures" "[I", Cond.constantLong RX8 308 (10), Cond.methodLink RX8 304 yX8_out, Cond.instanceMethod yX8_out, Cond.selects RX8 yX8_out yX8_out]
def wsX8_value_r2 : List Cond := [Cond.code yX8_out cX8_out 2 none, Cond.methodLink RX8 140 yX8_in, Cond.static yX8_in, Cond.code yX8_in cX8_in 3 (some .boolean)]
def wsX8_value : List Cond := .code yX8_value cX8_value 2 (some .int) :: ((wsX8_value_r1 ++ wsX8_value_r2) ++ wsX80)
def wsX8_worked : List Cond := .code yX8_worked cX8_worked 1 (some .int) :: ([.fieldLink RX8 334 "PolarTypesModel" "worked" "I"] ++ wsX80)
def wsX8_stuck : List Cond := .code yX8_stuck cX8_stuck 1 (some .int) :: ([.fieldLink RX8 134 "PolarTypesModel" "stuck" "I"] ++ wsX80)
def wsX8_count : List Cond := .code yX8_count cX8_count 4 (some .int) :: ([.fieldLink RX8 137 "PolarTypesModel" "nodes" "I", .fieldLink RX8 171 "PolarTypesModel" "variables" "I", .fieldLink RX8 25 "PolarTypesModel" "up" "[I", .fieldLink RX8 131 "PolarTypesModel" "outcome" "I"] ++ wsX80)
def wsX8_digest_r1 : List Cond := [Cond.constantLong RX8 367 (17), Cond.fieldLink RX8 137 "PolarTypesModel" "nodes" "I", Cond.constantLong RX8 369 (31), Cond.fieldLink RX8 171 "PolarTypesModel" "variables" "I", Cond.methodLink RX8 371 yX8_told, Cond.instanceMethod yX8_told, Cond.selects RX8 yX8_told yX8_told, Cond.initialized RX8, Cond.code yX8_told cX8_told 3 (some .int), Cond.fieldLink RX8 7 "PolarTypesModel" "kindOf" "[I", Cond.fieldLink RX8 13 "PolarTypesModel" "valueOf" "[I", Cond.fieldLink RX8 16 "PolarTypesModel" "partMany" "[I", Cond.fieldLink RX8 25 "PolarTypesModel" "up" "[I", Cond.fieldLink RX8 19 "PolarTypesModel" "parts" "[I", Cond.fieldLink RX8 22 "PolarTypesModel" "labels" "[I", Cond.methodLink RX8 144 yX8_isNode, Cond.instanceMethod yX8_isNode, Cond.selects RX8 yX8_isNode yX8_isNode, Cond.code yX8_isNode cX8_isNode 2 (some .boolean), Cond.methodLink RX8 140 yX8_in, Cond.static yX8_in, Cond.code yX8_in cX8_in 3 (some .boolean), Cond.methodLink RX8 374 yX8_variable, Cond.instanceMethod yX8_variable]
def wsX8_digest_r2 : List Cond := [Cond.selects RX8 yX8_variable yX8_variable, Cond.code yX8_variable cX8_variable 3 (some .int), Cond.fieldLink RX8 31 "PolarTypesModel" "levelOf" "[I", Cond.fieldLink RX8 46 "PolarTypesModel" "variableType" "[I", Cond.fieldLink RX8 62 "PolarTypesModel" "boundMany" "[I", Cond.methodLink RX8 322 yX8_isVariable, Cond.instanceMethod yX8_isVariable, Cond.selects RX8 yX8_isVariable yX8_isVariable, Cond.code yX8_isVariable cX8_isVariable 2 (some .boolean)]
def wsX8_digest : List Cond := .code yX8_digest cX8_digest 5 (some .long) :: ((wsX8_digest_r1 ++ wsX8_digest_r2) ++ wsX80)
abbrev vwCl : List vw_C := [(RX0, TX0, 2), (RX1, TX1, 2), (RX2, TX2, 6), (RX3, TX3, 6), (RX4, TX4, 14), (RX5, TX5, 15), (RX6, TX6, 14), (RX7, TX7, 4), (RX8, TX8, 68)]
end
section
set_option maxRecDepth 20000 in
theorem ggX0_init__X0_add : GoodIn wsX0_init_ wsX0_add := goodIn_r _ [10, 11, 5, 12, 13, 14, 15, 16, 17, 18, 19, 20, 21, 4, 22, 23, 24, 25, 26, 27, 28, 29, 30, 31] (by decide +kernel) (by decide +kernel)
set_option maxRecDepth 20000 in
theorem gX0_init__X0_add : GoodIn wsX0_init_ (wsV RX0 15 RX0 yX0_add wsX0_add) := goodIn_app (goodIn_of _ (by decide +kernel)) ggX0_init__X0_add
set_option maxRecDepth 20000 in
theorem ggX0_add_J7_copyOf_59c91 : GoodIn wsX0_add wsJ7_copyOf_59c91 := goodIn_r _ [6, 7, 8, 9, 10, 11, 12, 13, 14, 15, 16, 17, 18, 19, 20, 21] (by decide +kernel) (by decide +kernel)
set_option maxRecDepth 20000 in
theorem gX0_add_J7_copyOf_59c91 : GoodIn wsX0_add (va_wsS RX0 23 yJ7_copyOf_59c91 wsJ7_copyOf_59c91) := goodIn_app (goodIn_of _ (by decide +kernel)) ggX0_add_J7_copyOf_59c91
set_option maxRecDepth 20000 in
theorem ggX3_init_X0_init : GoodIn wsX3_init wsX0_init := goodIn_r _ [15, 16, 2, 3, 17, 18, 19, 20] (by decide +kernel) (by decide +kernel)
set_option maxRecDepth 20000 in
theorem gX3_init_X0_init : GoodIn wsX3_init (wsX0_init) := ggX3_init_X0_init
set_option maxRecDepth 20000 in
theorem ggX4_startAnew_X0_cutTo : GoodIn wsX4_startAnew wsX0_cutTo := goodIn_r _ [17, 18, 63, 64] (by decide +kernel) (by decide +kernel)
set_option maxRecDepth 20000 in
theorem gX4_startAnew_X0_cutTo : GoodIn wsX4_startAnew (wsV RX4 61 RX0 yX0_cutTo wsX0_cutTo) := goodIn_app (goodIn_of _ (by decide +kernel)) ggX4_startAnew_X0_cutTo
set_option maxRecDepth 20000 in
theorem ggX4_startAnew_X4_addType : GoodIn wsX4_startAnew wsX4_addType := goodIn_r _ [23, 1, 24, 2, 3, 4, 10, 25, 26, 27, 16, 28, 18, 29, 30, 31, 32, 33, 34, 35, 36, 37, 38, 39, 40, 41, 42, 43, 44, 45, 46, 47, 48, 49, 50, 51, 52, 53, 54, 55, 56, 57, 58, 59, 60, 61, 62, 63, 64] (by decide +kernel) (by decide +kernel)
set_option maxRecDepth 20000 in
theorem gX4_startAnew_X4_addType : GoodIn wsX4_startAnew (wsV RX4 65 RX4 yX4_addType wsX4_addType) := goodIn_app (goodIn_of _ (by decide +kernel)) ggX4_startAnew_X4_addType
set_option maxRecDepth 20000 in
theorem ggX4_addType_X0_add : GoodIn wsX4_addType wsX0_add := goodIn_r _ [11, 12, 13, 14, 15, 16, 17, 18, 19, 20, 21, 22, 23, 24, 25, 26, 27, 28, 29, 30, 31, 32, 47, 48] (by decide +kernel) (by decide +kernel)
set_option maxRecDepth 20000 in
theorem gX4_addType_X0_add : GoodIn wsX4_addType (wsV RX4 73 RX0 yX0_add wsX0_add) := goodIn_app (goodIn_of _ (by decide +kernel)) ggX4_addType_X0_add
end
section
theorem dX0_init_0 : decode cX0_init 0 = .ok (.aload_n 0, 1) := by decide +kernel
theorem dX0_init_1 : decode cX0_init 1 = .ok (.invokespecial 3, 3) := by decide +kernel
theorem dX0_init_4 : decode cX0_init 4 = .ok (.aload_n 0, 1) := by decide +kernel
theorem dX0_init_5 : decode cX0_init 5 = .ok (.iconst 4, 1) := by decide +kernel
theorem dX0_init_6 : decode cX0_init 6 = .ok (.newarray .int, 2) := by decide +kernel
theorem dX0_init_8 : decode cX0_init 8 = .ok (.putfield 9, 3) := by decide +kernel
theorem dX0_init_11 : decode cX0_init 11 = .ok (.return_, 1) := by decide +kernel
theorem dX0_init__0 : decode cX0_init_ 0 = .ok (.aload_n 0, 1) := by decide +kernel
theorem dX0_init__1 : decode cX0_init_ 1 = .ok (.invokespecial 3, 3) := by decide +kernel
theorem dX0_init__4 : decode cX0_init_ 4 = .ok (.aload_n 0, 1) := by decide +kernel
theorem dX0_init__5 : decode cX0_init_ 5 = .ok (.iconst 4, 1) := by decide +kernel
theorem dX0_init__6 : decode cX0_init_ 6 = .ok (.newarray .int, 2) := by decide +kernel
theorem dX0_init__8 : decode cX0_init_ 8 = .ok (.putfield 9, 3) := by decide +kernel
theorem dX0_init__11 : decode cX0_init_ 11 = .ok (.iconst 0, 1) := by decide +kernel
theorem dX0_init__12 : decode cX0_init_ 12 = .ok (.istore_n 2, 1) := by decide +kernel
theorem dX0_init__13 : decode cX0_init_ 13 = .ok (.iload_n 2, 1) := by decide +kernel
theorem dX0_init__14 : decode cX0_init_ 14 = .ok (.iload_n 1, 1) := by decide +kernel
theorem dX0_init__15 : decode cX0_init_ 15 = .ok (.if_icmp .ge 15, 3) := by decide +kernel
theorem dX0_init__18 : decode cX0_init_ 18 = .ok (.aload_n 0, 1) := by decide +kernel
theorem dX0_init__19 : decode cX0_init_ 19 = .ok (.bipush (-9), 2) := by decide +kernel
theorem dX0_init__21 : decode cX0_init_ 21 = .ok (.invokevirtual 15, 3) := by decide +kernel
theorem dX0_init__24 : decode cX0_init_ 24 = .ok (.iinc 2 1, 3) := by decide +kernel
theorem dX0_init__27 : decode cX0_init_ 27 = .ok (.goto (-14), 3) := by decide +kernel
theorem dX0_init__30 : decode cX0_init_ 30 = .ok (.return_, 1) := by decide +kernel
theorem dX0_holds_0 : decode cX0_holds 0 = .ok (.iload_n 1, 1) := by decide +kernel
theorem dX0_holds_1 : decode cX0_holds 1 = .ok (.ifCond .lt 15, 3) := by decide +kernel
theorem dX0_holds_4 : decode cX0_holds 4 = .ok (.iload_n 1, 1) := by decide +kernel
theorem dX0_holds_5 : decode cX0_holds 5 = .ok (.aload_n 0, 1) := by decide +kernel
theorem dX0_holds_6 : decode cX0_holds 6 = .ok (.getfield 19, 3) := by decide +kernel
theorem dX0_holds_9 : decode cX0_holds 9 = .ok (.if_icmp .ge 7, 3) := by decide +kernel
theorem dX0_holds_16 : decode cX0_holds 16 = .ok (.iconst 0, 1) := by decide +kernel
theorem dX0_holds_17 : decode cX0_holds 17 = .ok (.ireturn, 1) := by decide +kernel
theorem dX0_get_0 : decode cX0_get 0 = .ok (.iload_n 1, 1) := by decide +kernel
theorem dX0_get_1 : decode cX0_get 1 = .ok (.ifCond .lt 20, 3) := by decide +kernel
theorem dX0_get_4 : decode cX0_get 4 = .ok (.iload_n 1, 1) := by decide +kernel
theorem dX0_get_5 : decode cX0_get 5 = .ok (.aload_n 0, 1) := by decide +kernel
theorem dX0_get_6 : decode cX0_get 6 = .ok (.getfield 19, 3) := by decide +kernel
theorem dX0_get_9 : decode cX0_get 9 = .ok (.if_icmp .ge 12, 3) := by decide +kernel
theorem dX0_get_21 : decode cX0_get 21 = .ok (.bipush (-9), 2) := by decide +kernel
theorem dX0_get_23 : decode cX0_get 23 = .ok (.ireturn, 1) := by decide +kernel
theorem dX0_add_0 : decode cX0_add 0 = .ok (.aload_n 0, 1) := by decide +kernel
theorem dX0_add_1 : decode cX0_add 1 = .ok (.getfield 19, 3) := by decide +kernel
theorem dX0_add_4 : decode cX0_add 4 = .ok (.aload_n 0, 1) := by decide +kernel
theorem dX0_add_5 : decode cX0_add 5 = .ok (.getfield 9, 3) := by decide +kernel
theorem dX0_add_8 : decode cX0_add 8 = .ok (.arraylength, 1) := by decide +kernel
theorem dX0_add_9 : decode cX0_add 9 = .ok (.if_icmp .lt 22, 3) := by decide +kernel
theorem dX0_add_12 : decode cX0_add 12 = .ok (.aload_n 0, 1) := by decide +kernel
theorem dX0_add_13 : decode cX0_add 13 = .ok (.aload_n 0, 1) := by decide +kernel
theorem dX0_add_14 : decode cX0_add 14 = .ok (.getfield 9, 3) := by decide +kernel
theorem dX0_add_17 : decode cX0_add 17 = .ok (.iconst 2, 1) := by decide +kernel
theorem dX0_add_18 : decode cX0_add 18 = .ok (.aload_n 0, 1) := by decide +kernel
theorem dX0_add_19 : decode cX0_add 19 = .ok (.getfield 19, 3) := by decide +kernel
theorem dX0_add_22 : decode cX0_add 22 = .ok (.imul, 1) := by decide +kernel
theorem dX0_add_23 : decode cX0_add 23 = .ok (.iconst 4, 1) := by decide +kernel
theorem dX0_add_24 : decode cX0_add 24 = .ok (.iadd, 1) := by decide +kernel
theorem dX0_add_25 : decode cX0_add 25 = .ok (.invokestatic 23, 3) := by decide +kernel
theorem dX0_add_28 : decode cX0_add 28 = .ok (.putfield 9, 3) := by decide +kernel
theorem dX0_add_31 : decode cX0_add 31 = .ok (.aload_n 0, 1) := by decide +kernel
theorem dX0_add_32 : decode cX0_add 32 = .ok (.getfield 9, 3) := by decide +kernel
theorem dX0_add_35 : decode cX0_add 35 = .ok (.aload_n 0, 1) := by decide +kernel
theorem dX0_add_36 : decode cX0_add 36 = .ok (.getfield 19, 3) := by decide +kernel
theorem dX0_add_39 : decode cX0_add 39 = .ok (.iload_n 1, 1) := by decide +kernel
theorem dX0_add_40 : decode cX0_add 40 = .ok (.iastore, 1) := by decide +kernel
theorem dX0_add_41 : decode cX0_add 41 = .ok (.aload_n 0, 1) := by decide +kernel
theorem dX0_add_42 : decode cX0_add 42 = .ok (.dup, 1) := by decide +kernel
theorem dX0_add_43 : decode cX0_add 43 = .ok (.getfield 19, 3) := by decide +kernel
theorem dX0_add_46 : decode cX0_add 46 = .ok (.iconst 1, 1) := by decide +kernel
theorem dX0_add_47 : decode cX0_add 47 = .ok (.iadd, 1) := by decide +kernel
theorem dX0_add_48 : decode cX0_add 48 = .ok (.putfield 19, 3) := by decide +kernel
theorem dX0_add_51 : decode cX0_add 51 = .ok (.return_, 1) := by decide +kernel
theorem dX0_cutTo_0 : decode cX0_cutTo 0 = .ok (.iload_n 1, 1) := by decide +kernel
theorem dX0_cutTo_1 : decode cX0_cutTo 1 = .ok (.ifCond .lt 16, 3) := by decide +kernel
theorem dX0_cutTo_4 : decode cX0_cutTo 4 = .ok (.iload_n 1, 1) := by decide +kernel
theorem dX0_cutTo_5 : decode cX0_cutTo 5 = .ok (.aload_n 0, 1) := by decide +kernel
theorem dX0_cutTo_6 : decode cX0_cutTo 6 = .ok (.getfield 19, 3) := by decide +kernel
theorem dX0_cutTo_9 : decode cX0_cutTo 9 = .ok (.if_icmp .ge 8, 3) := by decide +kernel
theorem dX0_cutTo_17 : decode cX0_cutTo 17 = .ok (.return_, 1) := by decide +kernel
theorem dX1_init_0 : decode cX1_init 0 = .ok (.aload_n 0, 1) := by decide +kernel
theorem dX1_init_1 : decode cX1_init 1 = .ok (.invokespecial 3, 3) := by decide +kernel
theorem dX1_init_4 : decode cX1_init 4 = .ok (.aload_n 0, 1) := by decide +kernel
theorem dX1_init_5 : decode cX1_init 5 = .ok (.iload_n 1, 1) := by decide +kernel
theorem dX1_init_6 : decode cX1_init 6 = .ok (.iconst 0, 1) := by decide +kernel
theorem dX1_init_7 : decode cX1_init 7 = .ok (.invokestatic 9, 3) := by decide +kernel
theorem dX1_init_10 : decode cX1_init 10 = .ok (.newarray .byte, 2) := by decide +kernel
theorem dX1_init_12 : decode cX1_init 12 = .ok (.putfield 15, 3) := by decide +kernel
theorem dX1_init_15 : decode cX1_init 15 = .ok (.return_, 1) := by decide +kernel
theorem dX3_init_0 : decode cX3_init 0 = .ok (.aload_n 0, 1) := by decide +kernel
theorem dX3_init_1 : decode cX3_init 1 = .ok (.invokespecial 3, 3) := by decide +kernel
theorem dX3_init_4 : decode cX3_init 4 = .ok (.aload_n 0, 1) := by decide +kernel
theorem dX3_init_5 : decode cX3_init 5 = .ok (.new 9, 3) := by decide +kernel
theorem dX3_init_8 : decode cX3_init 8 = .ok (.dup, 1) := by decide +kernel
theorem dX3_init_9 : decode cX3_init 9 = .ok (.invokespecial 11, 3) := by decide +kernel
theorem dX3_init_12 : decode cX3_init 12 = .ok (.putfield 12, 3) := by decide +kernel
theorem dX3_init_15 : decode cX3_init 15 = .ok (.aload_n 0, 1) := by decide +kernel
theorem dX3_init_16 : decode cX3_init 16 = .ok (.new 9, 3) := by decide +kernel
theorem dX3_init_19 : decode cX3_init 19 = .ok (.dup, 1) := by decide +kernel
theorem dX3_init_20 : decode cX3_init 20 = .ok (.invokespecial 11, 3) := by decide +kernel
theorem dX3_init_23 : decode cX3_init 23 = .ok (.putfield 18, 3) := by decide +kernel
theorem dX3_init_26 : decode cX3_init 26 = .ok (.aload_n 0, 1) := by decide +kernel
theorem dX3_init_27 : decode cX3_init 27 = .ok (.new 9, 3) := by decide +kernel
theorem dX3_init_30 : decode cX3_init 30 = .ok (.dup, 1) := by decide +kernel
theorem dX3_init_31 : decode cX3_init 31 = .ok (.invokespecial 11, 3) := by decide +kernel
theorem dX3_init_34 : decode cX3_init 34 = .ok (.putfield 21, 3) := by decide +kernel
theorem dX3_init_37 : decode cX3_init 37 = .ok (.aload_n 0, 1) := by decide +kernel
theorem dX3_init_38 : decode cX3_init 38 = .ok (.new 9, 3) := by decide +kernel
theorem dX3_init_41 : decode cX3_init 41 = .ok (.dup, 1) := by decide +kernel
theorem dX3_init_42 : decode cX3_init 42 = .ok (.invokespecial 11, 3) := by decide +kernel
theorem dX3_init_45 : decode cX3_init 45 = .ok (.putfield 24, 3) := by decide +kernel
theorem dX3_init_48 : decode cX3_init 48 = .ok (.aload_n 0, 1) := by decide +kernel
theorem dX3_init_49 : decode cX3_init 49 = .ok (.new 9, 3) := by decide +kernel
theorem dX3_init_52 : decode cX3_init 52 = .ok (.dup, 1) := by decide +kernel
theorem dX3_init_53 : decode cX3_init 53 = .ok (.invokespecial 11, 3) := by decide +kernel
theorem dX3_init_56 : decode cX3_init 56 = .ok (.putfield 27, 3) := by decide +kernel
theorem dX3_init_59 : decode cX3_init 59 = .ok (.aload_n 0, 1) := by decide +kernel
theorem dX3_init_60 : decode cX3_init 60 = .ok (.new 9, 3) := by decide +kernel
theorem dX3_init_63 : decode cX3_init 63 = .ok (.dup, 1) := by decide +kernel
theorem dX3_init_64 : decode cX3_init 64 = .ok (.invokespecial 11, 3) := by decide +kernel
theorem dX3_init_67 : decode cX3_init 67 = .ok (.putfield 30, 3) := by decide +kernel
theorem dX3_init_70 : decode cX3_init 70 = .ok (.return_, 1) := by decide +kernel
theorem dX4_startAnew_0 : decode cX4_startAnew 0 = .ok (.aload_n 0, 1) := by decide +kernel
theorem dX4_startAnew_1 : decode cX4_startAnew 1 = .ok (.getfield 12, 3) := by decide +kernel
theorem dX4_startAnew_4 : decode cX4_startAnew 4 = .ok (.iconst 0, 1) := by decide +kernel
theorem dX4_startAnew_5 : decode cX4_startAnew 5 = .ok (.invokevirtual 61, 3) := by decide +kernel
theorem dX4_startAnew_8 : decode cX4_startAnew 8 = .ok (.aload_n 0, 1) := by decide +kernel
theorem dX4_startAnew_9 : decode cX4_startAnew 9 = .ok (.getfield 18, 3) := by decide +kernel
theorem dX4_startAnew_12 : decode cX4_startAnew 12 = .ok (.iconst 0, 1) := by decide +kernel
theorem dX4_startAnew_13 : decode cX4_startAnew 13 = .ok (.invokevirtual 61, 3) := by decide +kernel
theorem dX4_startAnew_16 : decode cX4_startAnew 16 = .ok (.aload_n 0, 1) := by decide +kernel
theorem dX4_startAnew_17 : decode cX4_startAnew 17 = .ok (.getfield 21, 3) := by decide +kernel
theorem dX4_startAnew_20 : decode cX4_startAnew 20 = .ok (.iconst 0, 1) := by decide +kernel
theorem dX4_startAnew_21 : decode cX4_startAnew 21 = .ok (.invokevirtual 61, 3) := by decide +kernel
theorem dX4_startAnew_24 : decode cX4_startAnew 24 = .ok (.aload_n 0, 1) := by decide +kernel
theorem dX4_startAnew_25 : decode cX4_startAnew 25 = .ok (.getfield 24, 3) := by decide +kernel
theorem dX4_startAnew_28 : decode cX4_startAnew 28 = .ok (.iconst 0, 1) := by decide +kernel
theorem dX4_startAnew_29 : decode cX4_startAnew 29 = .ok (.invokevirtual 61, 3) := by decide +kernel
theorem dX4_startAnew_32 : decode cX4_startAnew 32 = .ok (.aload_n 0, 1) := by decide +kernel
theorem dX4_startAnew_33 : decode cX4_startAnew 33 = .ok (.getfield 27, 3) := by decide +kernel
theorem dX4_startAnew_36 : decode cX4_startAnew 36 = .ok (.iconst 0, 1) := by decide +kernel
theorem dX4_startAnew_37 : decode cX4_startAnew 37 = .ok (.invokevirtual 61, 3) := by decide +kernel
theorem dX4_startAnew_40 : decode cX4_startAnew 40 = .ok (.aload_n 0, 1) := by decide +kernel
theorem dX4_startAnew_41 : decode cX4_startAnew 41 = .ok (.getfield 30, 3) := by decide +kernel
theorem dX4_startAnew_44 : decode cX4_startAnew 44 = .ok (.iconst 0, 1) := by decide +kernel
theorem dX4_startAnew_45 : decode cX4_startAnew 45 = .ok (.invokevirtual 61, 3) := by decide +kernel
theorem dX4_startAnew_48 : decode cX4_startAnew 48 = .ok (.aload_n 0, 1) := by decide +kernel
theorem dX4_startAnew_49 : decode cX4_startAnew 49 = .ok (.getfield 33, 3) := by decide +kernel
theorem dX4_startAnew_52 : decode cX4_startAnew 52 = .ok (.iconst 0, 1) := by decide +kernel
theorem dX4_startAnew_53 : decode cX4_startAnew 53 = .ok (.invokevirtual 61, 3) := by decide +kernel
theorem dX4_startAnew_56 : decode cX4_startAnew 56 = .ok (.aload_n 0, 1) := by decide +kernel
theorem dX4_startAnew_57 : decode cX4_startAnew 57 = .ok (.getfield 36, 3) := by decide +kernel
theorem dX4_startAnew_60 : decode cX4_startAnew 60 = .ok (.iconst 0, 1) := by decide +kernel
theorem dX4_startAnew_61 : decode cX4_startAnew 61 = .ok (.invokevirtual 61, 3) := by decide +kernel
theorem dX4_startAnew_64 : decode cX4_startAnew 64 = .ok (.aload_n 0, 1) := by decide +kernel
theorem dX4_startAnew_65 : decode cX4_startAnew 65 = .ok (.getfield 39, 3) := by decide +kernel
theorem dX4_startAnew_68 : decode cX4_startAnew 68 = .ok (.iconst 0, 1) := by decide +kernel
theorem dX4_startAnew_69 : decode cX4_startAnew 69 = .ok (.invokevirtual 61, 3) := by decide +kernel
theorem dX4_startAnew_72 : decode cX4_startAnew 72 = .ok (.aload_n 0, 1) := by decide +kernel
theorem dX4_startAnew_73 : decode cX4_startAnew 73 = .ok (.getfield 49, 3) := by decide +kernel
theorem dX4_startAnew_76 : decode cX4_startAnew 76 = .ok (.iconst 0, 1) := by decide +kernel
theorem dX4_startAnew_77 : decode cX4_startAnew 77 = .ok (.invokevirtual 61, 3) := by decide +kernel
theorem dX4_startAnew_80 : decode cX4_startAnew 80 = .ok (.aload_n 0, 1) := by decide +kernel
theorem dX4_startAnew_81 : decode cX4_startAnew 81 = .ok (.getfield 52, 3) := by decide +kernel
theorem dX4_startAnew_84 : decode cX4_startAnew 84 = .ok (.iconst 0, 1) := by decide +kernel
theorem dX4_startAnew_85 : decode cX4_startAnew 85 = .ok (.invokevirtual 61, 3) := by decide +kernel
theorem dX4_startAnew_88 : decode cX4_startAnew 88 = .ok (.aload_n 0, 1) := by decide +kernel
theorem dX4_startAnew_89 : decode cX4_startAnew 89 = .ok (.getfield 55, 3) := by decide +kernel
theorem dX4_startAnew_92 : decode cX4_startAnew 92 = .ok (.iconst 0, 1) := by decide +kernel
theorem dX4_startAnew_93 : decode cX4_startAnew 93 = .ok (.invokevirtual 61, 3) := by decide +kernel
theorem dX4_startAnew_96 : decode cX4_startAnew 96 = .ok (.aload_n 0, 1) := by decide +kernel
theorem dX4_startAnew_97 : decode cX4_startAnew 97 = .ok (.iconst 0, 1) := by decide +kernel
theorem dX4_startAnew_98 : decode cX4_startAnew 98 = .ok (.iconst 0, 1) := by decide +kernel
theorem dX4_startAnew_99 : decode cX4_startAnew 99 = .ok (.bipush (-9), 2) := by decide +kernel
theorem dX4_startAnew_101 : decode cX4_startAnew 101 = .ok (.bipush (-9), 2) := by decide +kernel
theorem dX4_startAnew_103 : decode cX4_startAnew 103 = .ok (.invokevirtual 65, 3) := by decide +kernel
theorem dX4_startAnew_106 : decode cX4_startAnew 106 = .ok (.pop, 1) := by decide +kernel
theorem dX4_startAnew_107 : decode cX4_startAnew 107 = .ok (.aload_n 0, 1) := by decide +kernel
theorem dX4_startAnew_108 : decode cX4_startAnew 108 = .ok (.iconst 1, 1) := by decide +kernel
theorem dX4_startAnew_109 : decode cX4_startAnew 109 = .ok (.iconst 0, 1) := by decide +kernel
theorem dX4_startAnew_110 : decode cX4_startAnew 110 = .ok (.bipush (-9), 2) := by decide +kernel
theorem dX4_startAnew_112 : decode cX4_startAnew 112 = .ok (.bipush (-9), 2) := by decide +kernel
theorem dX4_startAnew_114 : decode cX4_startAnew 114 = .ok (.invokevirtual 65, 3) := by decide +kernel
theorem dX4_startAnew_117 : decode cX4_startAnew 117 = .ok (.pop, 1) := by decide +kernel
theorem dX4_startAnew_118 : decode cX4_startAnew 118 = .ok (.return_, 1) := by decide +kernel
theorem dX4_addType_0 : decode cX4_addType 0 = .ok (.aload_n 0, 1) := by decide +kernel
theorem dX4_addType_1 : decode cX4_addType 1 = .ok (.getfield 12, 3) := by decide +kernel
theorem dX4_addType_4 : decode cX4_addType 4 = .ok (.getfield 69, 3) := by decide +kernel
theorem dX4_addType_7 : decode cX4_addType 7 = .ok (.istore 5, 2) := by decide +kernel
theorem dX4_addType_9 : decode cX4_addType 9 = .ok (.iload 5, 2) := by decide +kernel
theorem dX4_addType_11 : decode cX4_addType 11 = .ok (.sipush 602, 3) := by decide +kernel
theorem dX4_addType_14 : decode cX4_addType 14 = .ok (.if_icmp .lt 6, 3) := by decide +kernel
theorem dX4_addType_20 : decode cX4_addType 20 = .ok (.aload_n 0, 1) := by decide +kernel
theorem dX4_addType_21 : decode cX4_addType 21 = .ok (.getfield 12, 3) := by decide +kernel
theorem dX4_addType_24 : decode cX4_addType 24 = .ok (.iload_n 1, 1) := by decide +kernel
theorem dX4_addType_25 : decode cX4_addType 25 = .ok (.invokevirtual 73, 3) := by decide +kernel
theorem dX4_addType_28 : decode cX4_addType 28 = .ok (.aload_n 0, 1) := by decide +kernel
theorem dX4_addType_29 : decode cX4_addType 29 = .ok (.getfield 18, 3) := by decide +kernel
theorem dX4_addType_32 : decode cX4_addType 32 = .ok (.iload_n 2, 1) := by decide +kernel
theorem dX4_addType_33 : decode cX4_addType 33 = .ok (.invokevirtual 73, 3) := by decide +kernel
theorem dX4_addType_36 : decode cX4_addType 36 = .ok (.aload_n 0, 1) := by decide +kernel
theorem dX4_addType_37 : decode cX4_addType 37 = .ok (.getfield 21, 3) := by decide +kernel
theorem dX4_addType_40 : decode cX4_addType 40 = .ok (.iload_n 3, 1) := by decide +kernel
theorem dX4_addType_41 : decode cX4_addType 41 = .ok (.invokevirtual 73, 3) := by decide +kernel
theorem dX4_addType_44 : decode cX4_addType 44 = .ok (.aload_n 0, 1) := by decide +kernel
theorem dX4_addType_45 : decode cX4_addType 45 = .ok (.getfield 24, 3) := by decide +kernel
theorem dX4_addType_48 : decode cX4_addType 48 = .ok (.iload 4, 2) := by decide +kernel
theorem dX4_addType_50 : decode cX4_addType 50 = .ok (.invokevirtual 73, 3) := by decide +kernel
theorem dX4_addType_53 : decode cX4_addType 53 = .ok (.aload_n 0, 1) := by decide +kernel
theorem dX4_addType_54 : decode cX4_addType 54 = .ok (.getfield 49, 3) := by decide +kernel
theorem dX4_addType_57 : decode cX4_addType 57 = .ok (.bipush (-9), 2) := by decide +kernel
theorem dX4_addType_59 : decode cX4_addType 59 = .ok (.invokevirtual 73, 3) := by decide +kernel
theorem dX4_addType_62 : decode cX4_addType 62 = .ok (.iload 5, 2) := by decide +kernel
theorem dX4_addType_64 : decode cX4_addType 64 = .ok (.ireturn, 1) := by decide +kernel
theorem dJ7_copyOf_59c91_0 : decode cJ7_copyOf_59c91 0 = .ok (.iload_n 1, 1) := by decide +kernel
theorem dJ7_copyOf_59c91_1 : decode cJ7_copyOf_59c91 1 = .ok (.aload_n 0, 1) := by decide +kernel
theorem dJ7_copyOf_59c91_2 : decode cJ7_copyOf_59c91 2 = .ok (.arraylength, 1) := by decide +kernel
theorem dJ7_copyOf_59c91_3 : decode cJ7_copyOf_59c91 3 = .ok (.if_icmp .ne 11, 3) := by decide +kernel
theorem dJ7_copyOf_59c91_14 : decode cJ7_copyOf_59c91 14 = .ok (.iload_n 1, 1) := by decide +kernel
theorem dJ7_copyOf_59c91_15 : decode cJ7_copyOf_59c91 15 = .ok (.newarray .int, 2) := by decide +kernel
theorem dJ7_copyOf_59c91_17 : decode cJ7_copyOf_59c91 17 = .ok (.astore_n 2, 1) := by decide +kernel
theorem dJ7_copyOf_59c91_18 : decode cJ7_copyOf_59c91 18 = .ok (.aload_n 0, 1) := by decide +kernel
theorem dJ7_copyOf_59c91_19 : decode cJ7_copyOf_59c91 19 = .ok (.iconst 0, 1) := by decide +kernel
theorem dJ7_copyOf_59c91_20 : decode cJ7_copyOf_59c91 20 = .ok (.aload_n 2, 1) := by decide +kernel
theorem dJ7_copyOf_59c91_21 : decode cJ7_copyOf_59c91 21 = .ok (.iconst 0, 1) := by decide +kernel
theorem dJ7_copyOf_59c91_22 : decode cJ7_copyOf_59c91 22 = .ok (.aload_n 0, 1) := by decide +kernel
theorem dJ7_copyOf_59c91_23 : decode cJ7_copyOf_59c91 23 = .ok (.arraylength, 1) := by decide +kernel
theorem dJ7_copyOf_59c91_24 : decode cJ7_copyOf_59c91 24 = .ok (.iload_n 1, 1) := by decide +kernel
theorem dJ7_copyOf_59c91_25 : decode cJ7_copyOf_59c91 25 = .ok (.invokestatic 304, 3) := by decide +kernel
theorem dJ7_copyOf_59c91_28 : decode cJ7_copyOf_59c91 28 = .ok (.invokestatic 150, 3) := by decide +kernel
theorem dJ7_copyOf_59c91_31 : decode cJ7_copyOf_59c91 31 = .ok (.aload_n 2, 1) := by decide +kernel
theorem dJ7_copyOf_59c91_32 : decode cJ7_copyOf_59c91 32 = .ok (.areturn, 1) := by decide +kernel
end
section

/-! ===== ground: the class of int arrays is one; the static table; small facts ===== -/
theorem vk_int {D : va_G} {cl : List vw_C} {tys : List (ClassId × FieldType)} {U : State} {c1 c2 : ClassId} {i j : Nat} (h : va_K D cl tys U) (hi : tys[i]? = some (c1, .int)) (hj : tys[j]? = some (c2, .int)) : c1 = c2 := by
  have a := va_nm_int (h.2 i _ hi).2
  have b := va_nm_int (h.2 j _ hj).2
  rw [a] at b
  exact Option.some.inj b
def pkI (j : Nat) : Int32 := [0, 0, 0, 1, 2, 0, 1, 2, 2, 3, 2, 2].getD j 0
def ZT (tk : Nat) (A : Nat → Prop) (U : State) (H : Heap) : Prop := va_Z "PolarTypes$Tree" "PARTS_OF_KIND" "[I" (.ref tk) A U H ∧ va_T .int tk 12 (fun j => .int (pkI j)) A U H
theorem ZT.calling {tk : Nat} {A : Nat → Prop} {U : State} {H : Heap} (h : ZT tk A U H) (g) (mk) (a) : ZT tk A (U.calling g mk a) H := ⟨va_Z.moved (Vm.Alike.refl U.vm) h.1, va_T.moved (Vm.Alike.refl U.vm) h.2⟩
theorem ZT.call {tk : Nat} {A0 A1 : Nat → Prop} {s U : State} {H : Heap} {locs : List Loc} (h : ZT tk A0 s s.heap) (hS : va_S A0 s.heap H locs) (hU : U.heap = H) (hW : s.WarmedH U.vm) (hF : ∀ q, A1 q → A0 q) : ZT tk A1 U U.heap := by
  rw [hU]
  exact ⟨va_Z.moved hW.alike ((h.1.kept hS.2.1).narrow hF), va_T.moved hW.alike ((h.2.kept hS.2.1).narrow hF)⟩
theorem tb_out (x : Int32) (lo hi : Int) (h : ∀ z : Int, lo ≤ z → z ≤ hi → x.toInt = z → False) : x.toInt < lo ∨ hi < x.toInt := by
  rcases Int.lt_or_le x.toInt lo with a | a
  · exact Or.inl a
  · rcases Int.lt_or_le hi x.toInt with b | b
    · exact Or.inr b
    · exact (h x.toInt a b rfl).elim
theorem i_lt {x y : Int32} : x < y ↔ x.toInt < y.toInt := Int32.lt_iff_toInt_lt
theorem i_le {x y : Int32} : x ≤ y ↔ x.toInt ≤ y.toInt := Int32.le_iff_toInt_le
theorem i_eq {x y : Int32} : x = y ↔ x.toInt = y.toInt := Int32.toInt_inj.symm
theorem cp_ok {f g : Nat → Int32} {n j : Nat} (hj : j < n) (hn : n < 2 ^ 31) : va_cpy f g (0 : Int32).toNatClampNeg (0 : Int32).toNatClampNeg (nI n).toNatClampNeg j = f j := by
  have h0 : (0 : Int32).toNatClampNeg = 0 := rfl
  rw [h0, nI_clamp hn]
  unfold va_cpy
  rw [if_pos (by omega)]
  congr 1
  omega
/-- a loop of the machine, by a number that falls -/
theorem w_loop {p : Program} {l : Launch} {e : Env} {R : Room} {s : State} {m : MethodId} {args : Array Value} {below : List Frame} {meth : Method} {c : Code} {Q : State → Prop} (Inv : Nat → Heap → List Loc → Nat → Nat → JFrame → Prop)
    (h0 : ∀ H locs k sl g, Inv 0 H locs k sl g → W p l e R s m args below meth c H locs k sl Q g)
    (hs : ∀ n, (∀ H locs k sl g, Inv n H locs k sl g → W p l e R s m args below meth c H locs k sl Q g) → ∀ H locs k sl g, Inv (n + 1) H locs k sl g → W p l e R s m args below meth c H locs k sl Q g) :
    ∀ n H locs k sl g, Inv n H locs k sl g → W p l e R s m args below meth c H locs k sl Q g := by
  intro n
  induction n with
  | zero => exact h0
  | succ n ih => exact hs n ih
/-! ===== what the answers of a fresh object are, as the class and as the model say it ===== -/
def p_isK (k : Int32) : Int32 := if k < 0 then 0 else if 12 ≤ k then 0 else 1
def p_hasL (k : Int32) : Int32 := if k = 2 then 1 else if k = 3 then 1 else if k = 6 then 1 else if k = 7 then 1 else if ¬ k = 8 then 0 else 1
def p_isL (x : Int32) : Int32 := if x < 0 then 0 else if 26 ≤ x then 0 else 1
def p_fit (k v : Int32) : Int32 := if ¬ k = 1 then (if p_hasL k = 0 then 1 else if p_isL v = 0 then 0 else 1) else if v = 0 then 1 else if ¬ v = 1 then 0 else 1
def p_parts (k : Int32) : Int32 := if p_isK k = 0 then 0 else pkI k.toNatClampNeg
def p_canB (n : Int32) : Int32 := if n < 1 then 1 else 0
def p_node (k v : Int32) : Int32 := if p_isK k = 0 then -1 else if ¬ p_fit k v = 0 then (if ¬ p_canB (p_parts k) = 0 then 0 else -1) else -1
def p_in (v a b : Int32) : Int32 := if v < a then 0 else if b < v then 0 else 1
def m_parts (k : Int32) : Int32 := if k = 3 then 1 else if k = 4 then 2 else if k = 5 then 0 else if k = 6 then 1 else if k = 7 then 2 else if k = 8 then 2 else if k = 9 then 3 else if k = 10 then 2 else if k = 11 then 2 else 0
def m_end (k : Int32) : Int32 := if m_parts k ≤ 0 then 0 else -1
def m_node (k v : Int32) : Int32 := if p_in k 0 11 = 0 then -1 else if ¬ k = 1 then (if p_hasL k = 0 then m_end k else if ¬ p_in v 0 25 = 0 then m_end k else -1) else if p_in v 0 1 = 0 then -1 else if p_hasL k = 0 then m_end k else if ¬ p_in v 0 25 = 0 then m_end k else -1
theorem p_in_m1 (n : Int32) : p_in n 0 (-1) = 0 := by
  unfold p_in
  by_cases h : n < 0
  · rw [if_pos h]
  · rw [if_neg h, if_pos]
    rw [i_lt] at h ⊢
    have e0 : (0 : Int32).toInt = 0 := rfl
    have e1 : (-1 : Int32).toInt = -1 := rfl
    omega
def p_count (w : Int32) : Int32 := if w = 0 then 0 else if w = 1 then 0 else if w = 2 then 0 else if w = 3 then -9 else -1
end
section
set_option maxHeartbeats 4000000 in
set_option maxRecDepth 100000 in
/-- Row(): four places, none taken -/
theorem c_Row_init (l : Launch) (dC : Nat → ClassId) (dI : Nat → Nat → Nat) (cI : ClassId) (h0 : Nat) (sz : Nat) : Met l yX0_init wsX0_init ({ frames := 1, cells := 1, slots := 4, locals := 14 }) (va_Pc [.ref h0] (fun U => U.heap.size = sz ∧ va_P (dC, dI) vwCl [(h0, .inr (0, [.null, .int 0]))] U.heap ∧ va_K (dC, dI) vwCl [(cI, .int)] U ∧ va_D (fun _ => True) [(h0, .inr (0, [.null, .int 0]))])) (va_Qv (fun (_ : Unit) => True) (fun (_ : Unit) (t : State) => ∃ (q : Nat), va_P (dC, dI) vwCl [(h0, .inr (0, [.ref q, .int (nI 0)])), (q, .inl (cI, 4, .inl (fun _ => 0)))] t.heap ∧ va_K (dC, dI) vwCl [(cI, .int)] t ∧ va_D (va_A [(h0, .inr (0, [.null, .int 0]))] sz) [(h0, .inr (0, [.ref q, .int (nI 0)])), (q, .inl (cI, 4, .inl (fun _ => 0)))]) (va_A [(h0, .inr (0, [.null, .int 0]))] sz)) 1 4 (va_A [(h0, .inr (0, [.null, .int 0]))] sz) := by
  refine Met.ofW (cc := cX0_init) (maxL := 1) (ret := none) (by decide) rfl ?_
  intro p e s m args below meth c s₁ B hml hv
  obtain ⟨rfl, hsz, hP, hK, hD0⟩ := hv
  have hx := B.exec
  have hb := B.bytes
  have hr := B.returns
  have hts := atoms_spec (ws := wsX0_init) B.pre
  have hown : s.vm.findClass RX0 = some m.cls := findClass_of_methodNamed B.named
  have hlocks := B.notSynchronized
  have hin : meth.name = "<init>" := (name_of_methodNamed B.named B.method).1
  subst hsz
  have hD := hD0.self (sz := s.heap.size)
  generalize hAe : va_A [(h0, .inr (0, [.null, .int 0]))] s.heap.size = A at hD ⊢
  have hA : ∀ q : Nat, s.heap.size ≤ q → A q := fun q h => by rw [← hAe]; exact Or.inr h
  have hS : va_S A s.heap s.heap [] := va_S.rf
  have hP : va_P (dC, dI) vwCl [(h0, .inr (0, [.null, .int 0]))] s.heap := hP
  have hl := lv_entry ([.ref h0]) (n := 1) (Nat.le_of_ble_eq_true rfl)
  rw [lg_entry_eq]
  generalize (lg_sl ([.ref h0]) ++ List.replicate (1 - (lg_sl ([.ref h0])).length) Slot.unset).toArray = ls at hl ⊢
  have hl : lv_has ls 1 [(0, .ref h0)] := hl
  obtain ⟨H, hHe⟩ : ∃ H : Heap, H = s.heap := ⟨_, rfl⟩
  rw [← hHe] at hP ⊢
  have hS : va_S A s.heap H [] := by rw [hHe]; exact va_S.rf
  refine lv_aload_n hx hb dX0_init_0 rfl (lv_at hl 0 rfl) ?_
  refine W.objInit hx hb hown (hts (.methodLink RX0 3 objectInit) (List.mem_of_getElem? (i := 1) (by decide +kernel))) (hts (.instanceMethod objectInit) (List.mem_of_getElem? (i := 2) (by decide +kernel))) (hts (.code objectInit ⟨#[0xb1]⟩ 1 none) (List.mem_of_getElem? (i := 3) (by decide +kernel))) rfl (by rw [hml]; exact hl.1) rfl dX0_init_1 (Nat.le_of_ble_eq_true rfl) (Nat.le_of_ble_eq_true rfl) ?_
  refine W.eq (g2 := F0 m 4 ls []) rfl ?_
  refine lv_aload_n hx hb dX0_init_4 rfl (lv_at hl 0 rfl) ?_
  refine lv_iconst (v := 4) hx hb dX0_init_5 (by decide) ?_
  refine va_newa (atype := .int) (ty := .int) hx hb (hts (.arrayClass .int) (List.mem_of_getElem? (i := 4) (by decide +kernel))) rfl hK hP hD hS hA (N' := 4) (a0 := (4, .inl (fun _ => 0))) (fun _ => rfl) (by decide) (by decide) (Nat.le_of_ble_eq_true rfl) (Nat.le_of_ble_eq_true rfl) (Nat.le_of_ble_eq_true rfl) dX0_init_6 (fun q_1 cA_2 H hKn hP hD hS => ?_)
  have ecA_2 : cA_2 = cI := vk_int hKn (i := 1) (j := 0) rfl rfl
  rw [ecA_2] at hP hD
  have hP : va_P (dC, dI) vwCl [(h0, .inr (0, [.null, .int 0])), (q_1, .inl (cI, 4, .inl (fun _ => 0)))] H := hP
  have hD : va_D A [(h0, .inr (0, [.null, .int 0])), (q_1, .inl (cI, 4, .inl (fun _ => 0)))] := hD
  refine W.widen (k := 1) (n := 4) (Nat.le_of_ble_eq_true rfl) (Nat.le_of_ble_eq_true rfl) ?_
  refine va_put (D := (dC, dI)) (ci := 0) (v := .ref q_1) (ty := .array .int) (C := RX0) (T := TX0) (N := 2) hx hb hts (fun w h => List.mem_cons_of_mem _ (List.mem_append_right _ h)) tyX0 tyX0_ok nmX0 hown hK hP hD hS 0 rfl rfl 0 (by decide) (hts (.fieldLink RX0 9 "PolarTypes$Row" "items" "[I") (List.mem_of_getElem? (i := 5) (by decide +kernel))) (fun _ h9 => h9) rfl (by decide +kernel) rfl rfl (Nat.le_of_ble_eq_true rfl) dX0_init_8 (fun H locs hP hD hS => ?_)
  have hP : va_P (dC, dI) vwCl [(h0, .inr (0, [.ref q_1, .int 0])), (q_1, .inl (cI, 4, .inl (fun _ => 0)))] H := hP
  have hD : va_D A [(h0, .inr (0, [.ref q_1, .int 0])), (q_1, .inl (cI, 4, .inl (fun _ => 0)))] := hD
  have hP9 := hP.sub (ws' := [(h0, .inr (0, [.ref q_1, .int (nI 0)])), (q_1, .inl (cI, 4, .inl (fun _ => 0)))]) [0, 1] rfl
  have hD9 := hD.sub (ws' := [(h0, .inr (0, [.ref q_1, .int (nI 0)])), (q_1, .inl (cI, 4, .inl (fun _ => 0)))]) [0, 1] (by decide) rfl
  refine W.widen (k := 1) (n := 4) (Nat.le_of_ble_eq_true rfl) (Nat.le_of_ble_eq_true rfl) ?_
  exact W.vret hx hb hr (fun t ht hW => ⟨⟨(), rfl, trivial, q_1, by rw [ht]; exact hP9, va_K.moved hW.alike hK, hD9⟩, hS.F ht⟩) hS.2.2 dX0_init_11

set_option maxHeartbeats 4000000 in
set_option maxRecDepth 100000 in
/-- Arrays.copyOf to a greater length: the old places as they were -/
theorem c_copyOf (l : Launch) (dC : Nat → ClassId) (dI : Nat → Nat → Nat) (cI : ClassId) (q : Nat) (n : Nat) (n2 : Nat) (f : Nat → Int32) (hn : n < n2) (hb : n2 ≤ 604) (sz : Nat) : Met l yJ7_copyOf_59c91 wsJ7_copyOf_59c91 ({ frames := 1, cells := 1, slots := 604, locals := 60 }) (va_Pc [.ref q, .int (nI n2)] (fun U => U.heap.size = sz ∧ va_P (dC, dI) vwCl [(q, .inl (cI, n, .inl f))] U.heap ∧ va_K (dC, dI) vwCl [(cI, .int)] U ∧ va_D (fun _ => True) [(q, .inl (cI, n, .inl f))])) (va_Qr (fun (_ : Unit) => True) (fun (_ : Unit) (ra : Nat) (t : State) => ∃ (g : Nat → Int32), (∀ j, j < n → g j = f j) ∧ va_P (dC, dI) vwCl [(q, .inl (cI, n, .inl f)), (ra, .inl (cI, n2, .inl g))] t.heap ∧ va_K (dC, dI) vwCl [(cI, .int)] t ∧ va_D (va_A [(q, .inl (cI, n, .inl f))] sz) [(q, .inl (cI, n, .inl f)), (ra, .inl (cI, n2, .inl g))]) (va_A [(q, .inl (cI, n, .inl f))] sz)) 1 604 (va_A [(q, .inl (cI, n, .inl f))] sz) := by
  refine Met.ofW (cc := cJ7_copyOf_59c91) (maxL := 3) (ret := (some (.array .int))) (by decide) rfl ?_
  intro p e s m args below meth c s₁ B hml hv
  obtain ⟨rfl, hsz, hP, hK, hD0⟩ := hv
  have hx := B.exec
  have hb := B.bytes
  have hr := B.returns
  have hts := atoms_spec (ws := wsJ7_copyOf_59c91) B.pre
  have hown : s.vm.findClass RJ7 = some m.cls := findClass_of_methodNamed B.named
  have hlocks := B.notSynchronized
  subst hsz
  have hD := hD0.self (sz := s.heap.size)
  generalize hAe : va_A [(q, .inl (cI, n, .inl f))] s.heap.size = A at hD ⊢
  have hA : ∀ q : Nat, s.heap.size ≤ q → A q := fun q h => by rw [← hAe]; exact Or.inr h
  have hS : va_S A s.heap s.heap [] := va_S.rf
  have hP : va_P (dC, dI) vwCl [(q, .inl (cI, n, .inl f))] s.heap := hP
  have hl := lv_entry ([.ref q, .int (nI n2)]) (n := 3) (Nat.le_of_ble_eq_true rfl)
  rw [lg_entry_eq]
  generalize (lg_sl ([.ref q, .int (nI n2)]) ++ List.replicate (3 - (lg_sl ([.ref q, .int (nI n2)])).length) Slot.unset).toArray = ls at hl ⊢
  have hl : lv_has ls 3 [(0, .ref q), (1, .int (nI n2))] := hl
  obtain ⟨H, hHe⟩ : ∃ H : Heap, H = s.heap := ⟨_, rfl⟩
  rw [← hHe] at hP ⊢
  have hS : va_S A s.heap H [] := by rw [hHe]; exact va_S.rf
  refine lv_iload_n hx hb dJ7_copyOf_59c91_0 rfl (lv_at hl 1 rfl) ?_
  refine lv_aload_n hx hb dJ7_copyOf_59c91_1 rfl (lv_at hl 0 rfl) ?_
  refine va_alen hx hb hK hP 0 0 rfl rfl (v := nI n) rfl dJ7_copyOf_59c91_2 ?_
  refine lv_icmp_ne (tgt := 14) hx hb dJ7_copyOf_59c91_3 (by decide) (fun c_1 => ?_) (fun c_1 => absurd c_1 (fun h9 => absurd ((nI_eq (by omega) (by omega)).mp h9) (by omega)))
  refine lv_iload_n hx hb dJ7_copyOf_59c91_14 rfl (lv_at hl 1 rfl) ?_
  refine va_newa (atype := .int) (ty := .int) hx hb (hts (.arrayClass .int) (List.mem_of_getElem? (i := 7) (by decide +kernel))) rfl hK hP hD hS hA (N' := n2) (a0 := (n2, .inl (fun _ => 0))) (fun _ => rfl) (nI_pos (by omega)) (nI_clamp (by omega)) (show n2 * 4 ≤ 536870912 by omega) (Nat.le_of_ble_eq_true rfl) (show 0 + n2 ≤ 604 by omega) dJ7_copyOf_59c91_15 (fun q_4 cA_5 H hKn hP hD hS => ?_)
  have ecA_5 : cA_5 = cI := vk_int hKn (i := 1) (j := 0) rfl rfl
  rw [ecA_5] at hP hD
  have hP : va_P (dC, dI) vwCl [(q, .inl (cI, n, .inl f)), (q_4, .inl (cI, n2, .inl (fun _ => 0)))] H := hP
  have hD : va_D A [(q, .inl (cI, n, .inl f)), (q_4, .inl (cI, n2, .inl (fun _ => 0)))] := hD
  refine W.widen (k := 1) (n := 604) (Nat.le_of_ble_eq_true rfl) (show 0 + n2 ≤ 604 by omega) ?_
  refine lv_astore_n (lv' := [(2, .ref q_4), (0, .ref q), (1, .int (nI n2))]) hx hb dJ7_copyOf_59c91_17 rfl hl (by decide) rfl (fun ls hl => ?_)
  refine lv_aload_n hx hb dJ7_copyOf_59c91_18 rfl (lv_at hl 1 rfl) ?_
  refine lv_iconst (v := 0) hx hb dJ7_copyOf_59c91_19 (by decide) ?_
  refine lv_aload_n hx hb dJ7_copyOf_59c91_20 rfl (lv_at hl 0 rfl) ?_
  refine lv_iconst (v := 0) hx hb dJ7_copyOf_59c91_21 (by decide) ?_
  refine lv_aload_n hx hb dJ7_copyOf_59c91_22 rfl (lv_at hl 1 rfl) ?_
  refine va_alen hx hb hK hP 0 0 rfl rfl (v := nI n) rfl dJ7_copyOf_59c91_23 ?_
  refine lv_iload_n hx hb dJ7_copyOf_59c91_24 rfl (lv_at hl 2 rfl) ?_
  refine va_mmin hx hb (by rw [hml]; exact hl.1.symm) hown (hts (.methodLink RJ7 304 Lib.Math.min.name) (List.mem_of_getElem? (i := 8) (by decide +kernel))) (hts (.static Lib.Math.min.name) (List.mem_of_getElem? (i := 9) (by decide +kernel))) (hts (.initialized "java/lang/Math") (List.mem_of_getElem? (i := 10) (by decide +kernel))) (hts (.code Lib.Math.min.name Lib.Math.min.code 2 (some .int)) (List.mem_of_getElem? (i := 11) (by decide +kernel))) (Nat.le_of_ble_eq_true rfl) (Nat.le_of_ble_eq_true rfl) (Nat.le_of_ble_eq_true rfl) (Nat.le_of_ble_eq_true rfl) dJ7_copyOf_59c91_25 ?_
  refine lv_topi (fun f_6 ef_6 => ?_)
  have ef_6c : f_6 = nI n := ef_6.trans (if_neg (by rw [i_lt, nI_toInt (by omega), nI_toInt (by omega)]; omega))
  subst ef_6c
  refine va_copyi hx hb (by rw [hml]; exact hl.1.symm) hown (hts (.methodLink RJ7 150 arraycopyName) (List.mem_of_getElem? (i := 12) (by decide +kernel))) (hts (.native arraycopyName) (List.mem_of_getElem? (i := 13) (by decide +kernel))) (hts (.static arraycopyName) (List.mem_of_getElem? (i := 14) (by decide +kernel))) (hts (.initialized "java/lang/System") (List.mem_of_getElem? (i := 15) (by decide +kernel))) hK hP hD hS 0 1 0 0 rfl rfl rfl rfl rfl (by decide) (by decide) (nI_pos (by omega)) (by rw [nI_clamp (by omega)]; show 0 + n ≤ n; omega) (by rw [nI_clamp (by omega)]; show 0 + n ≤ n2; omega) (fun _ _ => rfl) (Nat.le_of_ble_eq_true rfl) (by decide +kernel) dJ7_copyOf_59c91_28 (fun H locs hP hD hS => ?_)
  obtain ⟨g_7, eg_7⟩ : ∃ y : Nat → Int32, y = va_cpy f (fun _ => 0) (0 : Int32).toNatClampNeg (0 : Int32).toNatClampNeg (nI n).toNatClampNeg := ⟨_, rfl⟩
  rw [← eg_7] at hP hD
  have hP : va_P (dC, dI) vwCl [(q, .inl (cI, n, .inl f)), (q_4, .inl (cI, n2, .inl g_7))] H := hP
  have hD : va_D A [(q, .inl (cI, n, .inl f)), (q_4, .inl (cI, n2, .inl g_7))] := hD
  refine lv_aload_n hx hb dJ7_copyOf_59c91_31 rfl (lv_at hl 0 rfl) ?_
  have hP9 := hP.sub (ws' := [(q, .inl (cI, n, .inl f)), (q_4, .inl (cI, n2, .inl g_7))]) [0, 1] rfl
  have hD9 := hD.sub (ws' := [(q, .inl (cI, n, .inl f)), (q_4, .inl (cI, n2, .inl g_7))]) [0, 1] (by decide) rfl
  refine W.widen (k := 1) (n := 604) (Nat.le_of_ble_eq_true rfl) (Nat.le_of_ble_eq_true rfl) ?_
  exact W.aret (v := .ref q_4) hx hb hr (Or.inr ⟨_, rfl⟩) (Or.inr ⟨_, rfl⟩) (fun t ht hW => ⟨⟨(), q_4, rfl, trivial, g_7, (fun j hj => by rw [eg_7]; exact cp_ok hj (by omega)), by rw [ht]; exact hP9, va_K.moved hW.alike hK, hD9⟩, hS.F ht⟩) hS.2.2 dJ7_copyOf_59c91_32

set_option maxHeartbeats 4000000 in
set_option maxRecDepth 100000 in
/-- Row.add: one more; the others as they were -/
theorem c_Row_add (l : Launch) (dC : Nat → ClassId) (dI : Nat → Nat → Nat) (cI : ClassId) (h0 : Nat) (q : Nat) (k : Nat) (n : Nat) (f : Nat → Int32) (x : Int32) (hk : k ≤ n) (hb : k < 300) (hn : n ≤ 100000) (sz : Nat) : Met l yX0_add wsX0_add ({ frames := 2, cells := 1, slots := 604, locals := 82 }) (va_Pc [.ref h0, .int x] (fun U => U.heap.size = sz ∧ va_P (dC, dI) vwCl [(h0, .inr (0, [.ref q, .int (nI k)])), (q, .inl (cI, n, .inl f))] U.heap ∧ va_K (dC, dI) vwCl [(cI, .int)] U ∧ va_D (fun _ => True) [(h0, .inr (0, [.ref q, .int (nI k)])), (q, .inl (cI, n, .inl f))])) (va_Qv (fun (_ : Unit) => True) (fun (_ : Unit) (t : State) => ∃ (q2 : Nat), ∃ (n2 : Nat), ∃ (g : Nat → Int32), (k + 1 ≤ n2 ∧ n2 ≤ 100000 ∧ (∀ j, j < k → g j = f j) ∧ g k = x) ∧ va_P (dC, dI) vwCl [(h0, .inr (0, [.ref q2, .int (nI (k + 1))])), (q2, .inl (cI, n2, .inl g))] t.heap ∧ va_K (dC, dI) vwCl [(cI, .int)] t ∧ va_D (va_A [(h0, .inr (0, [.ref q, .int (nI k)])), (q, .inl (cI, n, .inl f))] sz) [(h0, .inr (0, [.ref q2, .int (nI (k + 1))])), (q2, .inl (cI, n2, .inl g))]) (va_A [(h0, .inr (0, [.ref q, .int (nI k)])), (q, .inl (cI, n, .inl f))] sz)) 1 604 (va_A [(h0, .inr (0, [.ref q, .int (nI k)])), (q, .inl (cI, n, .inl f))] sz) := by
  refine Met.ofW (cc := cX0_add) (maxL := 2) (ret := none) (by decide) rfl ?_
  intro p e s m args below meth c s₁ B hml hv
  obtain ⟨rfl, hsz, hP, hK, hD0⟩ := hv
  have hx := B.exec
  have hb := B.bytes
  have hr := B.returns
  have hts := atoms_spec (ws := wsX0_add) B.pre
  have hown : s.vm.findClass RX0 = some m.cls := findClass_of_methodNamed B.named
  have hlocks := B.notSynchronized
  subst hsz
  have hD := hD0.self (sz := s.heap.size)
  generalize hAe : va_A [(h0, .inr (0, [.ref q, .int (nI k)])), (q, .inl (cI, n, .inl f))] s.heap.size = A at hD ⊢
  have hA : ∀ q : Nat, s.heap.size ≤ q → A q := fun q h => by rw [← hAe]; exact Or.inr h
  have hS : va_S A s.heap s.heap [] := va_S.rf
  have hP : va_P (dC, dI) vwCl [(h0, .inr (0, [.ref q, .int (nI k)])), (q, .inl (cI, n, .inl f))] s.heap := hP
  have hl := lv_entry ([.ref h0, .int x]) (n := 2) (Nat.le_of_ble_eq_true rfl)
  rw [lg_entry_eq]
  generalize (lg_sl ([.ref h0, .int x]) ++ List.replicate (2 - (lg_sl ([.ref h0, .int x])).length) Slot.unset).toArray = ls at hl ⊢
  have hl : lv_has ls 2 [(0, .ref h0), (1, .int x)] := hl
  obtain ⟨H, hHe⟩ : ∃ H : Heap, H = s.heap := ⟨_, rfl⟩
  rw [← hHe] at hP ⊢
  have hS : va_S A s.heap H [] := by rw [hHe]; exact va_S.rf
  refine lv_aload_n hx hb dX0_add_0 rfl (lv_at hl 0 rfl) ?_
  refine va_get (D := (dC, dI)) (ci := 0) (v := .int (nI k)) (C := RX0) (T := TX0) (N := 2) hx hb hts (fun w h => List.mem_cons_of_mem _ (List.mem_append_right _ h)) hown hK hP 0 rfl rfl 1 (by decide) (hts (.fieldLink RX0 19 "PolarTypes$Row" "size" "I") (List.mem_of_getElem? (i := 1) (by decide +kernel))) (fun _ h9 => h9) rfl dX0_add_1 ?_
  refine lv_aload_n hx hb dX0_add_4 rfl (lv_at hl 0 rfl) ?_
  refine va_get (D := (dC, dI)) (ci := 0) (v := .ref q) (C := RX0) (T := TX0) (N := 2) hx hb hts (fun w h => List.mem_cons_of_mem _ (List.mem_append_right _ h)) hown hK hP 0 rfl rfl 0 (by decide) (hts (.fieldLink RX0 9 "PolarTypes$Row" "items" "[I") (List.mem_of_getElem? (i := 2) (by decide +kernel))) (fun _ h9 => h9) rfl dX0_add_5 ?_
  refine va_alen hx hb hK hP 1 0 rfl rfl (v := nI n) rfl dX0_add_8 ?_
  refine lv_icmp_lt (tgt := 31) hx hb dX0_add_9 (by decide) (fun c_1 => ?_) (fun c_1 => ?_)
  · skip
    refine lv_aload_n hx hb dX0_add_31 rfl (lv_at hl 0 rfl) ?_
    refine va_get (D := (dC, dI)) (ci := 0) (v := .ref q) (C := RX0) (T := TX0) (N := 2) hx hb hts (fun w h => List.mem_cons_of_mem _ (List.mem_append_right _ h)) hown hK hP 0 rfl rfl 0 (by decide) (hts (.fieldLink RX0 9 "PolarTypes$Row" "items" "[I") (List.mem_of_getElem? (i := 2) (by decide +kernel))) (fun _ h9 => h9) rfl dX0_add_32 ?_
    refine lv_aload_n hx hb dX0_add_35 rfl (lv_at hl 0 rfl) ?_
    refine va_get (D := (dC, dI)) (ci := 0) (v := .int (nI k)) (C := RX0) (T := TX0) (N := 2) hx hb hts (fun w h => List.mem_cons_of_mem _ (List.mem_append_right _ h)) hown hK hP 0 rfl rfl 1 (by decide) (hts (.fieldLink RX0 19 "PolarTypes$Row" "size" "I") (List.mem_of_getElem? (i := 1) (by decide +kernel))) (fun _ h9 => h9) rfl dX0_add_36 ?_
    refine lv_iload_n hx hb dX0_add_39 rfl (lv_at hl 1 rfl) ?_
    refine va_iast hx hb hK hP hD hS 1 0 rfl rfl (vp_in_nI ((nI_ltI (by omega) (by omega)).mp c_1) (by omega)) dX0_add_40 (fun H locs hP hD hS => ?_)
    obtain ⟨g_2, eg_2⟩ : ∃ y : Nat → Int32, y = upd f (Int32.toNatClampNeg (nI k)) x := ⟨_, rfl⟩
    rw [← eg_2] at hP hD
    have hP : va_P (dC, dI) vwCl [(h0, .inr (0, [.ref q, .int (nI k)])), (q, .inl (cI, n, .inl g_2))] H := hP
    have hD : va_D A [(h0, .inr (0, [.ref q, .int (nI k)])), (q, .inl (cI, n, .inl g_2))] := hD
    refine lv_aload_n hx hb dX0_add_41 rfl (lv_at hl 0 rfl) ?_
    refine lv_dup hx hb dX0_add_42 rfl ?_
    refine va_get (D := (dC, dI)) (ci := 0) (v := .int (nI k)) (C := RX0) (T := TX0) (N := 2) hx hb hts (fun w h => List.mem_cons_of_mem _ (List.mem_append_right _ h)) hown hK hP 0 rfl rfl 1 (by decide) (hts (.fieldLink RX0 19 "PolarTypes$Row" "size" "I") (List.mem_of_getElem? (i := 1) (by decide +kernel))) (fun _ h9 => h9) rfl dX0_add_43 ?_
    refine lv_iconst (v := 1) hx hb dX0_add_46 (by decide) ?_
    refine lv_iadd hx hb dX0_add_47 ?_
    refine lv_topi (fun f_3 ef_3 => ?_)
    have ef_3c : f_3 = nI (k + 1) := ef_3.trans (nI_1 k)
    subst ef_3c
    refine va_put (D := (dC, dI)) (ci := 0) (v := .int (nI (k + 1))) (ty := .int) (C := RX0) (T := TX0) (N := 2) hx hb hts (fun w h => List.mem_cons_of_mem _ (List.mem_append_right _ h)) tyX0 tyX0_ok nmX0 hown hK hP hD hS 0 rfl rfl 1 (by decide) (hts (.fieldLink RX0 19 "PolarTypes$Row" "size" "I") (List.mem_of_getElem? (i := 1) (by decide +kernel))) (fun _ h9 => h9) rfl (by decide +kernel) rfl rfl (Nat.le_of_ble_eq_true rfl) dX0_add_48 (fun H locs hP hD hS => ?_)
    have hP : va_P (dC, dI) vwCl [(h0, .inr (0, [.ref q, .int (nI (k + 1))])), (q, .inl (cI, n, .inl g_2))] H := hP
    have hD : va_D A [(h0, .inr (0, [.ref q, .int (nI (k + 1))])), (q, .inl (cI, n, .inl g_2))] := hD
    have hP9 := hP.sub (ws' := [(h0, .inr (0, [.ref q, .int (nI (k + 1))])), (q, .inl (cI, n, .inl g_2))]) [0, 1] rfl
    have hD9 := hD.sub (ws' := [(h0, .inr (0, [.ref q, .int (nI (k + 1))])), (q, .inl (cI, n, .inl g_2))]) [0, 1] (by decide) rfl
    refine W.widen (k := 1) (n := 604) (Nat.le_of_ble_eq_true rfl) (Nat.le_of_ble_eq_true rfl) ?_
    exact W.vret hx hb hr (fun t ht hW => ⟨⟨(), rfl, trivial, q, n, g_2, ⟨by have := (nI_ltI (by omega) (by omega)).mp c_1; omega, by omega, fun j hj => by rw [eg_2, nI_clamp (by omega)]; exact (pk_un (Nat.ne_of_lt hj)).trans (rfl), by rw [eg_2, nI_clamp (by omega)]; exact pk_us⟩, by rw [ht]; exact hP9, va_K.moved hW.alike hK, hD9⟩, hS.F ht⟩) hS.2.2 dX0_add_51
  · skip
    refine lv_aload_n hx hb dX0_add_12 rfl (lv_at hl 0 rfl) ?_
    refine lv_aload_n hx hb dX0_add_13 rfl (lv_at hl 0 rfl) ?_
    refine va_get (D := (dC, dI)) (ci := 0) (v := .ref q) (C := RX0) (T := TX0) (N := 2) hx hb hts (fun w h => List.mem_cons_of_mem _ (List.mem_append_right _ h)) hown hK hP 0 rfl rfl 0 (by decide) (hts (.fieldLink RX0 9 "PolarTypes$Row" "items" "[I") (List.mem_of_getElem? (i := 2) (by decide +kernel))) (fun _ h9 => h9) rfl dX0_add_14 ?_
    refine lv_iconst (v := 2) hx hb dX0_add_17 (by decide) ?_
    refine lv_aload_n hx hb dX0_add_18 rfl (lv_at hl 0 rfl) ?_
    refine va_get (D := (dC, dI)) (ci := 0) (v := .int (nI k)) (C := RX0) (T := TX0) (N := 2) hx hb hts (fun w h => List.mem_cons_of_mem _ (List.mem_append_right _ h)) hown hK hP 0 rfl rfl 1 (by decide) (hts (.fieldLink RX0 19 "PolarTypes$Row" "size" "I") (List.mem_of_getElem? (i := 1) (by decide +kernel))) (fun _ h9 => h9) rfl dX0_add_19 ?_
    refine lv_imul hx hb dX0_add_22 ?_
    refine lv_topi (fun f_4 ef_4 => ?_)
    have ef_4c : f_4 = nI (2 * k) := ef_4.trans (pk_mul 2 k)
    subst ef_4c
    refine lv_iconst (v := 4) hx hb dX0_add_23 (by decide) ?_
    refine lv_iadd hx hb dX0_add_24 ?_
    refine lv_topi (fun f_5 ef_5 => ?_)
    have ef_5c : f_5 = nI (2 * k + 4) := ef_5.trans (nI_add (2 * k) 4)
    subst ef_5c
    have hPc := hP.sub (ws' := [(q, .inl (cI, n, .inl f))]) [1] rfl
    have hDc := hD.sub (ws' := [(q, .inl (cI, n, .inl f))]) [1] (by decide) rfl
    have hFc := va_free (wc := [(q, .inl (cI, n, .inl f))]) hD hS hA [1] rfl
    refine va_callr (va_runS (As := [.ref q, .int (nI (2 * k + 4))]) (rest := [.ref h0]) ⟨hx, hb, hml, hown, hts⟩ (c_copyOf l dC dI cI q n (2 * k + 4) f ((by have h9 : n ≤ k := (Nat.lt_or_ge k n).elim (fun h => absurd (nI_lt h (by omega)) c_1) id; omega)) ((by omega)) H.size) (va_cwS 2 hts gX0_add_J7_copyOf_59c91 rfl rfl rfl (by decide +kernel) ⟨Nat.le_of_ble_eq_true rfl, Nat.le_of_ble_eq_true rfl⟩) ⟨fun a U g mk q => by obtain ⟨q0, q1, qP, qK, qD⟩ := q; exact ⟨q0, q1, qP, va_K.moved (u := U) (U := U.calling g mk a) (Vm.Alike.refl U.vm) qK, qD⟩, fun U hU hW => ⟨rfl, by rw [hU], by rw [hU]; exact hPc, va_K.moved hW.alike hK, hDc.weaken (fun _ _ _ _ => trivial)⟩⟩ rfl rfl hl.1 rfl (lv_room (Nat.le_of_ble_eq_true rfl)) dX0_add_25 ⟨Nat.le_of_ble_eq_true rfl, Nat.le_of_ble_eq_true rfl⟩) hS (fun q _ h => hFc q h) hFc (fun u r_6 t H1 locs ht hvm hw hB hz1 hk1 hS => ?_)
    obtain ⟨y_7, p_8, hP1, hK1, hD1⟩ := hB
    rw [ht] at hP1
    obtain ⟨hP, hD⟩ := va_join (wr := [(h0, .inr (0, [.ref q, .int (nI k)]))]) (w1 := [(q, .inl (cI, n, .inl f)), (r_6, .inl (cI, 2 * k + 4, .inl y_7))]) hP hD [1] [0] rfl rfl (by decide) (by decide) hk1 hFc hP1 hD1
    generalize H1 = H at hP hS ⊢
    have hP : va_P (dC, dI) vwCl [(h0, .inr (0, [.ref q, .int (nI k)])), (q, .inl (cI, n, .inl f)), (r_6, .inl (cI, 2 * k + 4, .inl y_7))] H := hP
    have hD : va_D A [(h0, .inr (0, [.ref q, .int (nI k)])), (q, .inl (cI, n, .inl f)), (r_6, .inl (cI, 2 * k + 4, .inl y_7))] := hD
    refine W.widen (k := 1) (n := 604) (Nat.le_of_ble_eq_true rfl) (Nat.le_of_ble_eq_true rfl) ?_
    refine va_put (D := (dC, dI)) (ci := 0) (v := .ref r_6) (ty := .array .int) (C := RX0) (T := TX0) (N := 2) hx hb hts (fun w h => List.mem_cons_of_mem _ (List.mem_append_right _ h)) tyX0 tyX0_ok nmX0 hown hK hP hD hS 0 rfl rfl 0 (by decide) (hts (.fieldLink RX0 9 "PolarTypes$Row" "items" "[I") (List.mem_of_getElem? (i := 2) (by decide +kernel))) (fun _ h9 => h9) rfl (by decide +kernel) rfl rfl (Nat.le_of_ble_eq_true rfl) dX0_add_28 (fun H locs hP hD hS => ?_)
    have hP : va_P (dC, dI) vwCl [(h0, .inr (0, [.ref r_6, .int (nI k)])), (q, .inl (cI, n, .inl f)), (r_6, .inl (cI, 2 * k + 4, .inl y_7))] H := hP
    have hD : va_D A [(h0, .inr (0, [.ref r_6, .int (nI k)])), (q, .inl (cI, n, .inl f)), (r_6, .inl (cI, 2 * k + 4, .inl y_7))] := hD
    refine lv_aload_n hx hb dX0_add_31 rfl (lv_at hl 0 rfl) ?_
    refine va_get (D := (dC, dI)) (ci := 0) (v := .ref r_6) (C := RX0) (T := TX0) (N := 2) hx hb hts (fun w h => List.mem_cons_of_mem _ (List.mem_append_right _ h)) hown hK hP 0 rfl rfl 0 (by decide) (hts (.fieldLink RX0 9 "PolarTypes$Row" "items" "[I") (List.mem_of_getElem? (i := 2) (by decide +kernel))) (fun _ h9 => h9) rfl dX0_add_32 ?_
    refine lv_aload_n hx hb dX0_add_35 rfl (lv_at hl 0 rfl) ?_
    refine va_get (D := (dC, dI)) (ci := 0) (v := .int (nI k)) (C := RX0) (T := TX0) (N := 2) hx hb hts (fun w h => List.mem_cons_of_mem _ (List.mem_append_right _ h)) hown hK hP 0 rfl rfl 1 (by decide) (hts (.fieldLink RX0 19 "PolarTypes$Row" "size" "I") (List.mem_of_getElem? (i := 1) (by decide +kernel))) (fun _ h9 => h9) rfl dX0_add_36 ?_
    refine lv_iload_n hx hb dX0_add_39 rfl (lv_at hl 1 rfl) ?_
    refine va_iast hx hb hK hP hD hS 2 0 rfl rfl (vp_in_nI (by omega) (by omega)) dX0_add_40 (fun H locs hP hD hS => ?_)
    obtain ⟨g_9, eg_9⟩ : ∃ y : Nat → Int32, y = upd y_7 (Int32.toNatClampNeg (nI k)) x := ⟨_, rfl⟩
    rw [← eg_9] at hP hD
    have hP : va_P (dC, dI) vwCl [(h0, .inr (0, [.ref r_6, .int (nI k)])), (q, .inl (cI, n, .inl f)), (r_6, .inl (cI, 2 * k + 4, .inl g_9))] H := hP
    have hD : va_D A [(h0, .inr (0, [.ref r_6, .int (nI k)])), (q, .inl (cI, n, .inl f)), (r_6, .inl (cI, 2 * k + 4, .inl g_9))] := hD
    refine lv_aload_n hx hb dX0_add_41 rfl (lv_at hl 0 rfl) ?_
    refine lv_dup hx hb dX0_add_42 rfl ?_
    refine va_get (D := (dC, dI)) (ci := 0) (v := .int (nI k)) (C := RX0) (T := TX0) (N := 2) hx hb hts (fun w h => List.mem_cons_of_mem _ (List.mem_append_right _ h)) hown hK hP 0 rfl rfl 1 (by decide) (hts (.fieldLink RX0 19 "PolarTypes$Row" "size" "I") (List.mem_of_getElem? (i := 1) (by decide +kernel))) (fun _ h9 => h9) rfl dX0_add_43 ?_
    refine lv_iconst (v := 1) hx hb dX0_add_46 (by decide) ?_
    refine lv_iadd hx hb dX0_add_47 ?_
    refine lv_topi (fun f_10 ef_10 => ?_)
    have ef_10c : f_10 = nI (k + 1) := ef_10.trans (nI_1 k)
    subst ef_10c
    refine va_put (D := (dC, dI)) (ci := 0) (v := .int (nI (k + 1))) (ty := .int) (C := RX0) (T := TX0) (N := 2) hx hb hts (fun w h => List.mem_cons_of_mem _ (List.mem_append_right _ h)) tyX0 tyX0_ok nmX0 hown hK hP hD hS 0 rfl rfl 1 (by decide) (hts (.fieldLink RX0 19 "PolarTypes$Row" "size" "I") (List.mem_of_getElem? (i := 1) (by decide +kernel))) (fun _ h9 => h9) rfl (by decide +kernel) rfl rfl (Nat.le_of_ble_eq_true rfl) dX0_add_48 (fun H locs hP hD hS => ?_)
    have hP : va_P (dC, dI) vwCl [(h0, .inr (0, [.ref r_6, .int (nI (k + 1))])), (q, .inl (cI, n, .inl f)), (r_6, .inl (cI, 2 * k + 4, .inl g_9))] H := hP
    have hD : va_D A [(h0, .inr (0, [.ref r_6, .int (nI (k + 1))])), (q, .inl (cI, n, .inl f)), (r_6, .inl (cI, 2 * k + 4, .inl g_9))] := hD
    have hP9 := hP.sub (ws' := [(h0, .inr (0, [.ref r_6, .int (nI (k + 1))])), (r_6, .inl (cI, 2 * k + 4, .inl g_9))]) [0, 2] rfl
    have hD9 := hD.sub (ws' := [(h0, .inr (0, [.ref r_6, .int (nI (k + 1))])), (r_6, .inl (cI, 2 * k + 4, .inl g_9))]) [0, 2] (by decide) rfl
    refine W.widen (k := 1) (n := 604) (Nat.le_of_ble_eq_true rfl) (Nat.le_of_ble_eq_true rfl) ?_
    exact W.vret hx hb hr (fun t ht hW => ⟨⟨(), rfl, trivial, r_6, 2 * k + 4, g_9, ⟨by have := Nat.le_refl 0; omega, by omega, fun j hj => by rw [eg_9, nI_clamp (by omega)]; exact (pk_un (Nat.ne_of_lt hj)).trans (p_8 j (Nat.lt_of_lt_of_le hj hk)), by rw [eg_9, nI_clamp (by omega)]; exact pk_us⟩, by rw [ht]; exact hP9, va_K.moved hW.alike hK, hD9⟩, hS.F ht⟩) hS.2.2 dX0_add_51
end
section
set_option maxHeartbeats 4000000 in
set_option maxRecDepth 100000 in
/-- Row(120) -/
theorem c_Row_initN_120 (l : Launch) (dC : Nat → ClassId) (dI : Nat → Nat → Nat) (cI : ClassId) (h0 : Nat) (sz : Nat) : Met l yX0_init_ wsX0_init_ ({ frames := 3, cells := 121, slots := 72484, locals := 103 }) (va_Pc [.ref h0, .int 120] (fun U => U.heap.size = sz ∧ va_P (dC, dI) vwCl [(h0, .inr (0, [.null, .int 0]))] U.heap ∧ va_K (dC, dI) vwCl [(cI, .int)] U ∧ va_D (fun _ => True) [(h0, .inr (0, [.null, .int 0]))])) (va_Qv (fun (_ : Unit) => True) (fun (_ : Unit) (t : State) => ∃ (q : Nat), va_P (dC, dI) vwCl [(h0, .inr (0, [.ref q, .int (nI 120)]))] t.heap ∧ va_K (dC, dI) vwCl [(cI, .int)] t ∧ va_D (va_A [(h0, .inr (0, [.null, .int 0]))] sz) [(h0, .inr (0, [.ref q, .int (nI 120)]))]) (va_A [(h0, .inr (0, [.null, .int 0]))] sz)) 121 72484 (va_A [(h0, .inr (0, [.null, .int 0]))] sz) := by
  refine Met.ofW (cc := cX0_init_) (maxL := 3) (ret := none) (by decide) rfl ?_
  intro p e s m args below meth c s₁ B hml hv
  obtain ⟨rfl, hsz, hP, hK, hD0⟩ := hv
  have hx := B.exec
  have hb := B.bytes
  have hr := B.returns
  have hts := atoms_spec (ws := wsX0_init_) B.pre
  have hown : s.vm.findClass RX0 = some m.cls := findClass_of_methodNamed B.named
  have hlocks := B.notSynchronized
  have hin : meth.name = "<init>" := (name_of_methodNamed B.named B.method).1
  subst hsz
  have hD := hD0.self (sz := s.heap.size)
  generalize hAe : va_A [(h0, .inr (0, [.null, .int 0]))] s.heap.size = A at hD ⊢
  have hA : ∀ q : Nat, s.heap.size ≤ q → A q := fun q h => by rw [← hAe]; exact Or.inr h
  have hS : va_S A s.heap s.heap [] := va_S.rf
  have hP : va_P (dC, dI) vwCl [(h0, .inr (0, [.null, .int 0]))] s.heap := hP
  have hl := lv_entry ([.ref h0, .int 120]) (n := 3) (Nat.le_of_ble_eq_true rfl)
  rw [lg_entry_eq]
  generalize (lg_sl ([.ref h0, .int 120]) ++ List.replicate (3 - (lg_sl ([.ref h0, .int 120])).length) Slot.unset).toArray = ls at hl ⊢
  have hl : lv_has ls 3 [(0, .ref h0), (1, .int 120)] := hl
  obtain ⟨H, hHe⟩ : ∃ H : Heap, H = s.heap := ⟨_, rfl⟩
  rw [← hHe] at hP ⊢
  have hS : va_S A s.heap H [] := by rw [hHe]; exact va_S.rf
  refine lv_aload_n hx hb dX0_init__0 rfl (lv_at hl 0 rfl) ?_
  refine W.objInit hx hb hown (hts (.methodLink RX0 3 objectInit) (List.mem_of_getElem? (i := 1) (by decide +kernel))) (hts (.instanceMethod objectInit) (List.mem_of_getElem? (i := 2) (by decide +kernel))) (hts (.code objectInit ⟨#[0xb1]⟩ 1 none) (List.mem_of_getElem? (i := 3) (by decide +kernel))) rfl (by rw [hml]; exact hl.1) rfl dX0_init__1 (Nat.le_of_ble_eq_true rfl) (Nat.le_of_ble_eq_true rfl) ?_
  refine W.eq (g2 := F0 m 4 ls []) rfl ?_
  refine lv_aload_n hx hb dX0_init__4 rfl (lv_at hl 0 rfl) ?_
  refine lv_iconst (v := 4) hx hb dX0_init__5 (by decide) ?_
  refine va_newa (atype := .int) (ty := .int) hx hb (hts (.arrayClass .int) (List.mem_of_getElem? (i := 4) (by decide +kernel))) rfl hK hP hD hS hA (N' := 4) (a0 := (4, .inl (fun _ => 0))) (fun _ => rfl) (by decide) (by decide) (Nat.le_of_ble_eq_true rfl) (Nat.le_of_ble_eq_true rfl) (Nat.le_of_ble_eq_true rfl) dX0_init__6 (fun q_1 cA_2 H hKn hP hD hS => ?_)
  have ecA_2 : cA_2 = cI := vk_int hKn (i := 1) (j := 0) rfl rfl
  rw [ecA_2] at hP hD
  have hP : va_P (dC, dI) vwCl [(h0, .inr (0, [.null, .int 0])), (q_1, .inl (cI, 4, .inl (fun _ => 0)))] H := hP
  have hD : va_D A [(h0, .inr (0, [.null, .int 0])), (q_1, .inl (cI, 4, .inl (fun _ => 0)))] := hD
  refine W.widen (k := 1) (n := 4) (Nat.le_of_ble_eq_true rfl) (Nat.le_of_ble_eq_true rfl) ?_
  refine va_put (D := (dC, dI)) (ci := 0) (v := .ref q_1) (ty := .array .int) (C := RX0) (T := TX0) (N := 2) hx hb hts (fun w h => List.mem_cons_of_mem _ (List.mem_append_right _ h)) tyX0 tyX0_ok nmX0 hown hK hP hD hS 0 rfl rfl 0 (by decide) (hts (.fieldLink RX0 9 "PolarTypes$Row" "items" "[I") (List.mem_of_getElem? (i := 5) (by decide +kernel))) (fun _ h9 => h9) rfl (by decide +kernel) rfl rfl (Nat.le_of_ble_eq_true rfl) dX0_init__8 (fun H locs hP hD hS => ?_)
  have hP : va_P (dC, dI) vwCl [(h0, .inr (0, [.ref q_1, .int 0])), (q_1, .inl (cI, 4, .inl (fun _ => 0)))] H := hP
  have hD : va_D A [(h0, .inr (0, [.ref q_1, .int 0])), (q_1, .inl (cI, 4, .inl (fun _ => 0)))] := hD
  refine lv_iconst (v := 0) hx hb dX0_init__11 (by decide) ?_
  refine lv_istore_n (lv' := [(2, .int 0), (0, .ref h0), (1, .int 120)]) hx hb dX0_init__12 rfl hl (by decide) rfl (fun ls hl => ?_)
  refine w_loop (fun n H locs k sl g => ∃ (i q nn : Nat) (f : Nat → Int32) (ls : Array Slot), i + n = 120 ∧ i ≤ nn ∧ nn ≤ 100000 ∧ k = 1 + i ∧ sl = 4 + 604 * i ∧ va_P (dC, dI) vwCl [(h0, .inr (0, [.ref q, .int (nI i)])), (q, .inl (cI, nn, .inl f))] H ∧ va_D A [(h0, .inr (0, [.ref q, .int (nI i)])), (q, .inl (cI, nn, .inl f))] ∧ va_S A s.heap H locs ∧ lv_has ls 3 [(2, .int (nI i)), (0, .ref h0), (1, .int 120)] ∧ g = F0 m 13 ls []) ?_ ?_ 120 _ _ _ _ _ ⟨0, q_1, 4, fun _ => 0, ls, rfl, by decide, by decide, rfl, rfl, hP, hD, hS, lv_sub hl [0, 1, 2] rfl, rfl⟩
  · intro H locs k sl g hI
    obtain ⟨i, q, nn, f, ls, hi, h1, h2, rfl, rfl, hP, hD, hS, hl, rfl⟩ := hI
    have ei : i = 120 := hi
    subst ei
    refine lv_iload_n hx hb dX0_init__13 rfl (lv_at hl 0 rfl) ?_
    refine lv_iload_n hx hb dX0_init__14 rfl (lv_at hl 2 rfl) ?_
    refine lv_icmp_ge (tgt := 30) hx hb dX0_init__15 (by decide) (fun c_3 => ?_) (fun c_3 => absurd (by decide) c_3)
    have hP9 := hP.sub (ws' := [(h0, .inr (0, [.ref q, .int (nI 120)]))]) [0] rfl
    have hD9 := hD.sub (ws' := [(h0, .inr (0, [.ref q, .int (nI 120)]))]) [0] (by decide) rfl
    refine W.widen (k := 121) (n := 72484) (show 1 + 120 ≤ 121 by omega) (show 4 + 604 * 120 ≤ 72484 by omega) ?_
    exact W.vret hx hb hr (fun t ht hW => ⟨⟨(), rfl, trivial, q, by rw [ht]; exact hP9, va_K.moved hW.alike hK, hD9⟩, hS.F ht⟩) hS.2.2 dX0_init__30
  · intro n ih H locs k sl g hI
    obtain ⟨i, q, nn, f, ls, hi, h1, h2, rfl, rfl, hP, hD, hS, hl, rfl⟩ := hI
    have hlt : i < 120 := by omega
    refine lv_iload_n hx hb dX0_init__13 rfl (lv_at hl 0 rfl) ?_
    refine lv_iload_n hx hb dX0_init__14 rfl (lv_at hl 2 rfl) ?_
    refine lv_icmp_ge (tgt := 30) hx hb dX0_init__15 (by decide) (fun c_4 => absurd c_4 (fun h9 => absurd ((nI_leI (a := 120) (by omega) (by omega)).mp h9) (by omega))) (fun c_4 => ?_)
    refine lv_aload_n hx hb dX0_init__18 rfl (lv_at hl 1 rfl) ?_
    refine lv_bipush (v := (-9)) hx hb dX0_init__19 (by decide) ?_
    have hPc := hP.sub (ws' := [(h0, .inr (0, [.ref q, .int (nI i)])), (q, .inl (cI, nn, .inl f))]) [0, 1] rfl
    have hDc := hD.sub (ws' := [(h0, .inr (0, [.ref q, .int (nI i)])), (q, .inl (cI, nn, .inl f))]) [0, 1] (by decide) rfl
    have hFc := va_free (wc := [(h0, .inr (0, [.ref q, .int (nI i)])), (q, .inl (cI, nn, .inl f))]) hD hS hA [0, 1] rfl
    refine va_callv (va_runV (As := [.int ((-9))]) (rest := []) ⟨hx, hb, hml, hown, hts⟩ (c_Row_add l dC dI cI h0 q i nn f (-9) h1 ((by omega)) h2 H.size) (cwV 1 hts gX0_init__X0_add rfl rfl rfl (by decide +kernel) ⟨Nat.le_of_ble_eq_true rfl, Nat.le_of_ble_eq_true rfl⟩) ⟨fun a U g mk q => by obtain ⟨q0, q1, qP, qK, qD⟩ := q; exact ⟨q0, q1, qP, va_K.moved (u := U) (U := U.calling g mk a) (Vm.Alike.refl U.vm) qK, qD⟩, va_recv hK hPc (ci := 0) (q0 := 0) rfl rfl, fun U hU hW => ⟨rfl, by rw [hU], by rw [hU]; exact hPc, va_K.moved hW.alike hK, hDc.weaken (fun _ _ _ _ => trivial)⟩⟩ rfl rfl hl.1 rfl (lv_room (Nat.le_of_ble_eq_true rfl)) dX0_init__21 ⟨(show 1 + i + 1 ≤ 121 by omega), (show 4 + 604 * i + 604 ≤ 72484 by omega)⟩) hS (fun q _ h => hFc q h) hFc (fun u t H1 locs ht hvm hw hB hz1 hk1 hS => ?_)
    obtain ⟨y_6, y_7, y_8, p_9, hP1, hK1, hD1⟩ := hB
    rw [ht] at hP1
    obtain ⟨hP, hD⟩ := va_join (wr := []) (w1 := [(h0, .inr (0, [.ref y_6, .int (nI (i + 1))])), (y_6, .inl (cI, y_7, .inl y_8))]) hP hD [0, 1] [] rfl rfl (by decide) (by decide) hk1 hFc hP1 hD1
    generalize H1 = H at hP hS ⊢
    have hP : va_P (dC, dI) vwCl [(h0, .inr (0, [.ref y_6, .int (nI (i + 1))])), (y_6, .inl (cI, y_7, .inl y_8))] H := hP
    have hD : va_D A [(h0, .inr (0, [.ref y_6, .int (nI (i + 1))])), (y_6, .inl (cI, y_7, .inl y_8))] := hD
    refine lv_iinc (v := nI (i + 1)) (lv' := [(2, .int (nI (i + 1))), (0, .ref h0), (1, .int 120)]) hx hb dX0_init__24 hl (k := 0) rfl (by rw [← nI_1]; rfl) (by decide) rfl (fun ls hl => ?_)
    refine lv_goto (tgt := 13) hx hb dX0_init__27 (by decide) ?_
    exact ih _ _ _ _ _ ⟨i + 1, y_6, y_7, y_8, ls, by omega, p_9.1, p_9.2.1, by omega, by omega, hP, hD, hS, lv_sub hl [0, 1, 2] rfl, rfl⟩

set_option maxHeartbeats 4000000 in
set_option maxRecDepth 100000 in
/-- Row(300) -/
theorem c_Row_initN_300 (l : Launch) (dC : Nat → ClassId) (dI : Nat → Nat → Nat) (cI : ClassId) (h0 : Nat) (sz : Nat) : Met l yX0_init_ wsX0_init_ ({ frames := 3, cells := 301, slots := 181204, locals := 103 }) (va_Pc [.ref h0, .int 300] (fun U => U.heap.size = sz ∧ va_P (dC, dI) vwCl [(h0, .inr (0, [.null, .int 0]))] U.heap ∧ va_K (dC, dI) vwCl [(cI, .int)] U ∧ va_D (fun _ => True) [(h0, .inr (0, [.null, .int 0]))])) (va_Qv (fun (_ : Unit) => True) (fun (_ : Unit) (t : State) => ∃ (q : Nat), va_P (dC, dI) vwCl [(h0, .inr (0, [.ref q, .int (nI 300)]))] t.heap ∧ va_K (dC, dI) vwCl [(cI, .int)] t ∧ va_D (va_A [(h0, .inr (0, [.null, .int 0]))] sz) [(h0, .inr (0, [.ref q, .int (nI 300)]))]) (va_A [(h0, .inr (0, [.null, .int 0]))] sz)) 301 181204 (va_A [(h0, .inr (0, [.null, .int 0]))] sz) := by
  refine Met.ofW (cc := cX0_init_) (maxL := 3) (ret := none) (by decide) rfl ?_
  intro p e s m args below meth c s₁ B hml hv
  obtain ⟨rfl, hsz, hP, hK, hD0⟩ := hv
  have hx := B.exec
  have hb := B.bytes
  have hr := B.returns
  have hts := atoms_spec (ws := wsX0_init_) B.pre
  have hown : s.vm.findClass RX0 = some m.cls := findClass_of_methodNamed B.named
  have hlocks := B.notSynchronized
  have hin : meth.name = "<init>" := (name_of_methodNamed B.named B.method).1
  subst hsz
  have hD := hD0.self (sz := s.heap.size)
  generalize hAe : va_A [(h0, .inr (0, [.null, .int 0]))] s.heap.size = A at hD ⊢
  have hA : ∀ q : Nat, s.heap.size ≤ q → A q := fun q h => by rw [← hAe]; exact Or.inr h
  have hS : va_S A s.heap s.heap [] := va_S.rf
  have hP : va_P (dC, dI) vwCl [(h0, .inr (0, [.null, .int 0]))] s.heap := hP
  have hl := lv_entry ([.ref h0, .int 300]) (n := 3) (Nat.le_of_ble_eq_true rfl)
  rw [lg_entry_eq]
  generalize (lg_sl ([.ref h0, .int 300]) ++ List.replicate (3 - (lg_sl ([.ref h0, .int 300])).length) Slot.unset).toArray = ls at hl ⊢
  have hl : lv_has ls 3 [(0, .ref h0), (1, .int 300)] := hl
  obtain ⟨H, hHe⟩ : ∃ H : Heap, H = s.heap := ⟨_, rfl⟩
  rw [← hHe] at hP ⊢
  have hS : va_S A s.heap H [] := by rw [hHe]; exact va_S.rf
  refine lv_aload_n hx hb dX0_init__0 rfl (lv_at hl 0 rfl) ?_
  refine W.objInit hx hb hown (hts (.methodLink RX0 3 objectInit) (List.mem_of_getElem? (i := 1) (by decide +kernel))) (hts (.instanceMethod objectInit) (List.mem_of_getElem? (i := 2) (by decide +kernel))) (hts (.code objectInit ⟨#[0xb1]⟩ 1 none) (List.mem_of_getElem? (i := 3) (by decide +kernel))) rfl (by rw [hml]; exact hl.1) rfl dX0_init__1 (Nat.le_of_ble_eq_true rfl) (Nat.le_of_ble_eq_true rfl) ?_
  refine W.eq (g2 := F0 m 4 ls []) rfl ?_
  refine lv_aload_n hx hb dX0_init__4 rfl (lv_at hl 0 rfl) ?_
  refine lv_iconst (v := 4) hx hb dX0_init__5 (by decide) ?_
  refine va_newa (atype := .int) (ty := .int) hx hb (hts (.arrayClass .int) (List.mem_of_getElem? (i := 4) (by decide +kernel))) rfl hK hP hD hS hA (N' := 4) (a0 := (4, .inl (fun _ => 0))) (fun _ => rfl) (by decide) (by decide) (Nat.le_of_ble_eq_true rfl) (Nat.le_of_ble_eq_true rfl) (Nat.le_of_ble_eq_true rfl) dX0_init__6 (fun q_1 cA_2 H hKn hP hD hS => ?_)
  have ecA_2 : cA_2 = cI := vk_int hKn (i := 1) (j := 0) rfl rfl
  rw [ecA_2] at hP hD
  have hP : va_P (dC, dI) vwCl [(h0, .inr (0, [.null, .int 0])), (q_1, .inl (cI, 4, .inl (fun _ => 0)))] H := hP
  have hD : va_D A [(h0, .inr (0, [.null, .int 0])), (q_1, .inl (cI, 4, .inl (fun _ => 0)))] := hD
  refine W.widen (k := 1) (n := 4) (Nat.le_of_ble_eq_true rfl) (Nat.le_of_ble_eq_true rfl) ?_
  refine va_put (D := (dC, dI)) (ci := 0) (v := .ref q_1) (ty := .array .int) (C := RX0) (T := TX0) (N := 2) hx hb hts (fun w h => List.mem_cons_of_mem _ (List.mem_append_right _ h)) tyX0 tyX0_ok nmX0 hown hK hP hD hS 0 rfl rfl 0 (by decide) (hts (.fieldLink RX0 9 "PolarTypes$Row" "items" "[I") (List.mem_of_getElem? (i := 5) (by decide +kernel))) (fun _ h9 => h9) rfl (by decide +kernel) rfl rfl (Nat.le_of_ble_eq_true rfl) dX0_init__8 (fun H locs hP hD hS => ?_)
  have hP : va_P (dC, dI) vwCl [(h0, .inr (0, [.ref q_1, .int 0])), (q_1, .inl (cI, 4, .inl (fun _ => 0)))] H := hP
  have hD : va_D A [(h0, .inr (0, [.ref q_1, .int 0])), (q_1, .inl (cI, 4, .inl (fun _ => 0)))] := hD
  refine lv_iconst (v := 0) hx hb dX0_init__11 (by decide) ?_
  refine lv_istore_n (lv' := [(2, .int 0), (0, .ref h0), (1, .int 300)]) hx hb dX0_init__12 rfl hl (by decide) rfl (fun ls hl => ?_)
  refine w_loop (fun n H locs k sl g => ∃ (i q nn : Nat) (f : Nat → Int32) (ls : Array Slot), i + n = 300 ∧ i ≤ nn ∧ nn ≤ 100000 ∧ k = 1 + i ∧ sl = 4 + 604 * i ∧ va_P (dC, dI) vwCl [(h0, .inr (0, [.ref q, .int (nI i)])), (q, .inl (cI, nn, .inl f))] H ∧ va_D A [(h0, .inr (0, [.ref q, .int (nI i)])), (q, .inl (cI, nn, .inl f))] ∧ va_S A s.heap H locs ∧ lv_has ls 3 [(2, .int (nI i)), (0, .ref h0), (1, .int 300)] ∧ g = F0 m 13 ls []) ?_ ?_ 300 _ _ _ _ _ ⟨0, q_1, 4, fun _ => 0, ls, rfl, by decide, by decide, rfl, rfl, hP, hD, hS, lv_sub hl [0, 1, 2] rfl, rfl⟩
  · intro H locs k sl g hI
    obtain ⟨i, q, nn, f, ls, hi, h1, h2, rfl, rfl, hP, hD, hS, hl, rfl⟩ := hI
    have ei : i = 300 := hi
    subst ei
    refine lv_iload_n hx hb dX0_init__13 rfl (lv_at hl 0 rfl) ?_
    refine lv_iload_n hx hb dX0_init__14 rfl (lv_at hl 2 rfl) ?_
    refine lv_icmp_ge (tgt := 30) hx hb dX0_init__15 (by decide) (fun c_3 => ?_) (fun c_3 => absurd (by decide) c_3)
    have hP9 := hP.sub (ws' := [(h0, .inr (0, [.ref q, .int (nI 300)]))]) [0] rfl
    have hD9 := hD.sub (ws' := [(h0, .inr (0, [.ref q, .int (nI 300)]))]) [0] (by decide) rfl
    refine W.widen (k := 301) (n := 181204) (show 1 + 300 ≤ 301 by omega) (show 4 + 604 * 300 ≤ 181204 by omega) ?_
    exact W.vret hx hb hr (fun t ht hW => ⟨⟨(), rfl, trivial, q, by rw [ht]; exact hP9, va_K.moved hW.alike hK, hD9⟩, hS.F ht⟩) hS.2.2 dX0_init__30
  · intro n ih H locs k sl g hI
    obtain ⟨i, q, nn, f, ls, hi, h1, h2, rfl, rfl, hP, hD, hS, hl, rfl⟩ := hI
    have hlt : i < 300 := by omega
    refine lv_iload_n hx hb dX0_init__13 rfl (lv_at hl 0 rfl) ?_
    refine lv_iload_n hx hb dX0_init__14 rfl (lv_at hl 2 rfl) ?_
    refine lv_icmp_ge (tgt := 30) hx hb dX0_init__15 (by decide) (fun c_4 => absurd c_4 (fun h9 => absurd ((nI_leI (a := 300) (by omega) (by omega)).mp h9) (by omega))) (fun c_4 => ?_)
    refine lv_aload_n hx hb dX0_init__18 rfl (lv_at hl 1 rfl) ?_
    refine lv_bipush (v := (-9)) hx hb dX0_init__19 (by decide) ?_
    have hPc := hP.sub (ws' := [(h0, .inr (0, [.ref q, .int (nI i)])), (q, .inl (cI, nn, .inl f))]) [0, 1] rfl
    have hDc := hD.sub (ws' := [(h0, .inr (0, [.ref q, .int (nI i)])), (q, .inl (cI, nn, .inl f))]) [0, 1] (by decide) rfl
    have hFc := va_free (wc := [(h0, .inr (0, [.ref q, .int (nI i)])), (q, .inl (cI, nn, .inl f))]) hD hS hA [0, 1] rfl
    refine va_callv (va_runV (As := [.int ((-9))]) (rest := []) ⟨hx, hb, hml, hown, hts⟩ (c_Row_add l dC dI cI h0 q i nn f (-9) h1 ((by omega)) h2 H.size) (cwV 1 hts gX0_init__X0_add rfl rfl rfl (by decide +kernel) ⟨Nat.le_of_ble_eq_true rfl, Nat.le_of_ble_eq_true rfl⟩) ⟨fun a U g mk q => by obtain ⟨q0, q1, qP, qK, qD⟩ := q; exact ⟨q0, q1, qP, va_K.moved (u := U) (U := U.calling g mk a) (Vm.Alike.refl U.vm) qK, qD⟩, va_recv hK hPc (ci := 0) (q0 := 0) rfl rfl, fun U hU hW => ⟨rfl, by rw [hU], by rw [hU]; exact hPc, va_K.moved hW.alike hK, hDc.weaken (fun _ _ _ _ => trivial)⟩⟩ rfl rfl hl.1 rfl (lv_room (Nat.le_of_ble_eq_true rfl)) dX0_init__21 ⟨(show 1 + i + 1 ≤ 301 by omega), (show 4 + 604 * i + 604 ≤ 181204 by omega)⟩) hS (fun q _ h => hFc q h) hFc (fun u t H1 locs ht hvm hw hB hz1 hk1 hS => ?_)
    obtain ⟨y_6, y_7, y_8, p_9, hP1, hK1, hD1⟩ := hB
    rw [ht] at hP1
    obtain ⟨hP, hD⟩ := va_join (wr := []) (w1 := [(h0, .inr (0, [.ref y_6, .int (nI (i + 1))])), (y_6, .inl (cI, y_7, .inl y_8))]) hP hD [0, 1] [] rfl rfl (by decide) (by decide) hk1 hFc hP1 hD1
    generalize H1 = H at hP hS ⊢
    have hP : va_P (dC, dI) vwCl [(h0, .inr (0, [.ref y_6, .int (nI (i + 1))])), (y_6, .inl (cI, y_7, .inl y_8))] H := hP
    have hD : va_D A [(h0, .inr (0, [.ref y_6, .int (nI (i + 1))])), (y_6, .inl (cI, y_7, .inl y_8))] := hD
    refine lv_iinc (v := nI (i + 1)) (lv' := [(2, .int (nI (i + 1))), (0, .ref h0), (1, .int 300)]) hx hb dX0_init__24 hl (k := 0) rfl (by rw [← nI_1]; rfl) (by decide) rfl (fun ls hl => ?_)
    refine lv_goto (tgt := 13) hx hb dX0_init__27 (by decide) ?_
    exact ih _ _ _ _ _ ⟨i + 1, y_6, y_7, y_8, ls, by omega, p_9.1, p_9.2.1, by omega, by omega, hP, hD, hS, lv_sub hl [0, 1, 2] rfl, rfl⟩
end
section
set_option maxHeartbeats 4000000 in
set_option maxRecDepth 100000 in
/-- cutTo(0) of an empty row -/
theorem c_Row_cut0 (l : Launch) (dC : Nat → ClassId) (dI : Nat → Nat → Nat) (cI : ClassId) (h0 : Nat) (q : Nat) (sz : Nat) : Met l yX0_cutTo wsX0_cutTo ({ frames := 0, cells := 0, slots := 0, locals := 0 }) (va_Pc [.ref h0, .int 0] (fun U => U.heap.size = sz ∧ va_P (dC, dI) vwCl [(h0, .inr (0, [.ref q, .int (nI 0)]))] U.heap ∧ va_K (dC, dI) vwCl [(cI, .int)] U ∧ va_D (fun _ => True) [(h0, .inr (0, [.ref q, .int (nI 0)]))])) (va_Qv (fun (_ : Unit) => True) (fun (_ : Unit) (t : State) => va_P (dC, dI) vwCl [(h0, .inr (0, [.ref q, .int (nI 0)]))] t.heap ∧ va_K (dC, dI) vwCl [(cI, .int)] t ∧ va_D (va_A [(h0, .inr (0, [.ref q, .int (nI 0)]))] sz) [(h0, .inr (0, [.ref q, .int (nI 0)]))]) (va_A [(h0, .inr (0, [.ref q, .int (nI 0)]))] sz)) 0 0 (va_A [(h0, .inr (0, [.ref q, .int (nI 0)]))] sz) := by
  refine Met.ofW (cc := cX0_cutTo) (maxL := 2) (ret := none) (by decide) rfl ?_
  intro p e s m args below meth c s₁ B hml hv
  obtain ⟨rfl, hsz, hP, hK, hD0⟩ := hv
  have hx := B.exec
  have hb := B.bytes
  have hr := B.returns
  have hts := atoms_spec (ws := wsX0_cutTo) B.pre
  have hown : s.vm.findClass RX0 = some m.cls := findClass_of_methodNamed B.named
  have hlocks := B.notSynchronized
  subst hsz
  have hD := hD0.self (sz := s.heap.size)
  generalize hAe : va_A [(h0, .inr (0, [.ref q, .int (nI 0)]))] s.heap.size = A at hD ⊢
  have hA : ∀ q : Nat, s.heap.size ≤ q → A q := fun q h => by rw [← hAe]; exact Or.inr h
  have hS : va_S A s.heap s.heap [] := va_S.rf
  have hP : va_P (dC, dI) vwCl [(h0, .inr (0, [.ref q, .int (nI 0)]))] s.heap := hP
  have hl := lv_entry ([.ref h0, .int 0]) (n := 2) (Nat.le_of_ble_eq_true rfl)
  rw [lg_entry_eq]
  generalize (lg_sl ([.ref h0, .int 0]) ++ List.replicate (2 - (lg_sl ([.ref h0, .int 0])).length) Slot.unset).toArray = ls at hl ⊢
  have hl : lv_has ls 2 [(0, .ref h0), (1, .int 0)] := hl
  obtain ⟨H, hHe⟩ : ∃ H : Heap, H = s.heap := ⟨_, rfl⟩
  rw [← hHe] at hP ⊢
  have hS : va_S A s.heap H [] := by rw [hHe]; exact va_S.rf
  refine lv_iload_n hx hb dX0_cutTo_0 rfl (lv_at hl 1 rfl) ?_
  refine lv_if_lt (tgt := 17) hx hb dX0_cutTo_1 (by decide) (fun c_1 => absurd c_1 (by decide)) (fun c_1 => ?_)
  refine lv_iload_n hx hb dX0_cutTo_4 rfl (lv_at hl 1 rfl) ?_
  refine lv_aload_n hx hb dX0_cutTo_5 rfl (lv_at hl 0 rfl) ?_
  refine va_get (D := (dC, dI)) (ci := 0) (v := .int (nI 0)) (C := RX0) (T := TX0) (N := 2) hx hb hts (fun w h => List.mem_cons_of_mem _ (List.mem_append_right _ h)) hown hK hP 0 rfl rfl 1 (by decide) (hts (.fieldLink RX0 19 "PolarTypes$Row" "size" "I") (List.mem_of_getElem? (i := 1) (by decide +kernel))) (fun _ h9 => h9) rfl dX0_cutTo_6 ?_
  refine lv_icmp_ge (tgt := 17) hx hb dX0_cutTo_9 (by decide) (fun c_2 => ?_) (fun c_2 => absurd (by decide) c_2)
  have hP9 := hP.sub (ws' := [(h0, .inr (0, [.ref q, .int (nI 0)]))]) [0] rfl
  have hD9 := hD.sub (ws' := [(h0, .inr (0, [.ref q, .int (nI 0)]))]) [0] (by decide) rfl
  refine W.widen (k := 0) (n := 0) (Nat.le_of_ble_eq_true rfl) (Nat.le_of_ble_eq_true rfl) ?_
  exact W.vret hx hb hr (fun t ht hW => ⟨⟨(), rfl, trivial, by rw [ht]; exact hP9, va_K.moved hW.alike hK, hD9⟩, hS.F ht⟩) hS.2.2 dX0_cutTo_17

set_option maxHeartbeats 4000000 in
set_option maxRecDepth 100000 in
/-- holds, of an empty row -/
theorem c_Row_holds0 (l : Launch) (dC : Nat → ClassId) (dI : Nat → Nat → Nat) (cI : ClassId) (h0 : Nat) (q : Nat) (i : Int32) (sz : Nat) : Met l yX0_holds wsX0_holds ({ frames := 0, cells := 0, slots := 0, locals := 0 }) (va_Pc [.ref h0, .int i] (fun U => U.heap.size = sz ∧ va_P (dC, dI) vwCl [(h0, .inr (0, [.ref q, .int (nI 0)]))] U.heap ∧ va_K (dC, dI) vwCl [(cI, .int)] U ∧ va_D (fun _ => True) [(h0, .inr (0, [.ref q, .int (nI 0)]))])) (va_Qi (fun (r : Int32) (_ : Unit) => r = 0) (fun (_ : Unit) (t : State) => va_P (dC, dI) vwCl [(h0, .inr (0, [.ref q, .int (nI 0)]))] t.heap ∧ va_K (dC, dI) vwCl [(cI, .int)] t ∧ va_D (va_A [(h0, .inr (0, [.ref q, .int (nI 0)]))] sz) [(h0, .inr (0, [.ref q, .int (nI 0)]))]) (va_A [(h0, .inr (0, [.ref q, .int (nI 0)]))] sz)) 0 0 (va_A [(h0, .inr (0, [.ref q, .int (nI 0)]))] sz) := by
  refine Met.ofW (cc := cX0_holds) (maxL := 2) (ret := (some .boolean)) (by decide) rfl ?_
  intro p e s m args below meth c s₁ B hml hv
  obtain ⟨rfl, hsz, hP, hK, hD0⟩ := hv
  have hx := B.exec
  have hb := B.bytes
  have hr := B.returns
  have hts := atoms_spec (ws := wsX0_holds) B.pre
  have hown : s.vm.findClass RX0 = some m.cls := findClass_of_methodNamed B.named
  have hlocks := B.notSynchronized
  subst hsz
  have hD := hD0.self (sz := s.heap.size)
  generalize hAe : va_A [(h0, .inr (0, [.ref q, .int (nI 0)]))] s.heap.size = A at hD ⊢
  have hA : ∀ q : Nat, s.heap.size ≤ q → A q := fun q h => by rw [← hAe]; exact Or.inr h
  have hS : va_S A s.heap s.heap [] := va_S.rf
  have hP : va_P (dC, dI) vwCl [(h0, .inr (0, [.ref q, .int (nI 0)]))] s.heap := hP
  have hl := lv_entry ([.ref h0, .int i]) (n := 2) (Nat.le_of_ble_eq_true rfl)
  rw [lg_entry_eq]
  generalize (lg_sl ([.ref h0, .int i]) ++ List.replicate (2 - (lg_sl ([.ref h0, .int i])).length) Slot.unset).toArray = ls at hl ⊢
  have hl : lv_has ls 2 [(0, .ref h0), (1, .int i)] := hl
  obtain ⟨H, hHe⟩ : ∃ H : Heap, H = s.heap := ⟨_, rfl⟩
  rw [← hHe] at hP ⊢
  have hS : va_S A s.heap H [] := by rw [hHe]; exact va_S.rf
  refine lv_iload_n hx hb dX0_holds_0 rfl (lv_at hl 1 rfl) ?_
  refine lv_if_lt (tgt := 16) hx hb dX0_holds_1 (by decide) (fun c_1 => ?_) (fun c_1 => ?_)
  · skip
    refine lv_iconst (v := 0) hx hb dX0_holds_16 (by decide) ?_
    have hP9 := hP.sub (ws' := [(h0, .inr (0, [.ref q, .int (nI 0)]))]) [0] rfl
    have hD9 := hD.sub (ws' := [(h0, .inr (0, [.ref q, .int (nI 0)]))]) [0] (by decide) rfl
    refine W.widen (k := 0) (n := 0) (Nat.le_of_ble_eq_true rfl) (Nat.le_of_ble_eq_true rfl) ?_
    exact W.zret (v := 0) hx hb hr rfl (fun t ht hW => ⟨⟨0, (), rfl, rfl, by rw [ht]; exact hP9, va_K.moved hW.alike hK, hD9⟩, hS.F ht⟩) hS.2.2 dX0_holds_17
  · skip
    refine lv_iload_n hx hb dX0_holds_4 rfl (lv_at hl 1 rfl) ?_
    refine lv_aload_n hx hb dX0_holds_5 rfl (lv_at hl 0 rfl) ?_
    refine va_get (D := (dC, dI)) (ci := 0) (v := .int (nI 0)) (C := RX0) (T := TX0) (N := 2) hx hb hts (fun w h => List.mem_cons_of_mem _ (List.mem_append_right _ h)) hown hK hP 0 rfl rfl 1 (by decide) (hts (.fieldLink RX0 19 "PolarTypes$Row" "size" "I") (List.mem_of_getElem? (i := 1) (by decide +kernel))) (fun _ h9 => h9) rfl dX0_holds_6 ?_
    refine lv_icmp_ge (tgt := 16) hx hb dX0_holds_9 (by decide) (fun c_2 => ?_) (fun c_2 => absurd (Int32.not_lt.mp c_1) c_2)
    refine lv_iconst (v := 0) hx hb dX0_holds_16 (by decide) ?_
    have hP9 := hP.sub (ws' := [(h0, .inr (0, [.ref q, .int (nI 0)]))]) [0] rfl
    have hD9 := hD.sub (ws' := [(h0, .inr (0, [.ref q, .int (nI 0)]))]) [0] (by decide) rfl
    refine W.widen (k := 0) (n := 0) (Nat.le_of_ble_eq_true rfl) (Nat.le_of_ble_eq_true rfl) ?_
    exact W.zret (v := 0) hx hb hr rfl (fun t ht hW => ⟨⟨0, (), rfl, rfl, by rw [ht]; exact hP9, va_K.moved hW.alike hK, hD9⟩, hS.F ht⟩) hS.2.2 dX0_holds_17

set_option maxHeartbeats 4000000 in
set_option maxRecDepth 100000 in
/-- get, of an empty row -/
theorem c_Row_get0 (l : Launch) (dC : Nat → ClassId) (dI : Nat → Nat → Nat) (cI : ClassId) (h0 : Nat) (q : Nat) (i : Int32) (sz : Nat) : Met l yX0_get wsX0_get ({ frames := 0, cells := 0, slots := 0, locals := 0 }) (va_Pc [.ref h0, .int i] (fun U => U.heap.size = sz ∧ va_P (dC, dI) vwCl [(h0, .inr (0, [.ref q, .int (nI 0)]))] U.heap ∧ va_K (dC, dI) vwCl [(cI, .int)] U ∧ va_D (fun _ => True) [(h0, .inr (0, [.ref q, .int (nI 0)]))])) (va_Qi (fun (r : Int32) (_ : Unit) => r = (-9)) (fun (_ : Unit) (t : State) => va_P (dC, dI) vwCl [(h0, .inr (0, [.ref q, .int (nI 0)]))] t.heap ∧ va_K (dC, dI) vwCl [(cI, .int)] t ∧ va_D (va_A [(h0, .inr (0, [.ref q, .int (nI 0)]))] sz) [(h0, .inr (0, [.ref q, .int (nI 0)]))]) (va_A [(h0, .inr (0, [.ref q, .int (nI 0)]))] sz)) 0 0 (va_A [(h0, .inr (0, [.ref q, .int (nI 0)]))] sz) := by
  refine Met.ofW (cc := cX0_get) (maxL := 2) (ret := (some .int)) (by decide) rfl ?_
  intro p e s m args below meth c s₁ B hml hv
  obtain ⟨rfl, hsz, hP, hK, hD0⟩ := hv
  have hx := B.exec
  have hb := B.bytes
  have hr := B.returns
  have hts := atoms_spec (ws := wsX0_get) B.pre
  have hown : s.vm.findClass RX0 = some m.cls := findClass_of_methodNamed B.named
  have hlocks := B.notSynchronized
  subst hsz
  have hD := hD0.self (sz := s.heap.size)
  generalize hAe : va_A [(h0, .inr (0, [.ref q, .int (nI 0)]))] s.heap.size = A at hD ⊢
  have hA : ∀ q : Nat, s.heap.size ≤ q → A q := fun q h => by rw [← hAe]; exact Or.inr h
  have hS : va_S A s.heap s.heap [] := va_S.rf
  have hP : va_P (dC, dI) vwCl [(h0, .inr (0, [.ref q, .int (nI 0)]))] s.heap := hP
  have hl := lv_entry ([.ref h0, .int i]) (n := 2) (Nat.le_of_ble_eq_true rfl)
  rw [lg_entry_eq]
  generalize (lg_sl ([.ref h0, .int i]) ++ List.replicate (2 - (lg_sl ([.ref h0, .int i])).length) Slot.unset).toArray = ls at hl ⊢
  have hl : lv_has ls 2 [(0, .ref h0), (1, .int i)] := hl
  obtain ⟨H, hHe⟩ : ∃ H : Heap, H = s.heap := ⟨_, rfl⟩
  rw [← hHe] at hP ⊢
  have hS : va_S A s.heap H [] := by rw [hHe]; exact va_S.rf
  refine lv_iload_n hx hb dX0_get_0 rfl (lv_at hl 1 rfl) ?_
  refine lv_if_lt (tgt := 21) hx hb dX0_get_1 (by decide) (fun c_1 => ?_) (fun c_1 => ?_)
  · skip
    refine lv_bipush (v := (-9)) hx hb dX0_get_21 (by decide) ?_
    have hP9 := hP.sub (ws' := [(h0, .inr (0, [.ref q, .int (nI 0)]))]) [0] rfl
    have hD9 := hD.sub (ws' := [(h0, .inr (0, [.ref q, .int (nI 0)]))]) [0] (by decide) rfl
    refine W.widen (k := 0) (n := 0) (Nat.le_of_ble_eq_true rfl) (Nat.le_of_ble_eq_true rfl) ?_
    exact W.iret (v := (-9)) hx hb hr (fun t ht hW => ⟨⟨(-9), (), rfl, rfl, by rw [ht]; exact hP9, va_K.moved hW.alike hK, hD9⟩, hS.F ht⟩) hS.2.2 dX0_get_23
  · skip
    refine lv_iload_n hx hb dX0_get_4 rfl (lv_at hl 1 rfl) ?_
    refine lv_aload_n hx hb dX0_get_5 rfl (lv_at hl 0 rfl) ?_
    refine va_get (D := (dC, dI)) (ci := 0) (v := .int (nI 0)) (C := RX0) (T := TX0) (N := 2) hx hb hts (fun w h => List.mem_cons_of_mem _ (List.mem_append_right _ h)) hown hK hP 0 rfl rfl 1 (by decide) (hts (.fieldLink RX0 19 "PolarTypes$Row" "size" "I") (List.mem_of_getElem? (i := 1) (by decide +kernel))) (fun _ h9 => h9) rfl dX0_get_6 ?_
    refine lv_icmp_ge (tgt := 21) hx hb dX0_get_9 (by decide) (fun c_2 => ?_) (fun c_2 => absurd (Int32.not_lt.mp c_1) c_2)
    refine lv_bipush (v := (-9)) hx hb dX0_get_21 (by decide) ?_
    have hP9 := hP.sub (ws' := [(h0, .inr (0, [.ref q, .int (nI 0)]))]) [0] rfl
    have hD9 := hD.sub (ws' := [(h0, .inr (0, [.ref q, .int (nI 0)]))]) [0] (by decide) rfl
    refine W.widen (k := 0) (n := 0) (Nat.le_of_ble_eq_true rfl) (Nat.le_of_ble_eq_true rfl) ?_
    exact W.iret (v := (-9)) hx hb hr (fun t ht hW => ⟨⟨(-9), (), rfl, rfl, by rw [ht]; exact hP9, va_K.moved hW.alike hK, hD9⟩, hS.F ht⟩) hS.2.2 dX0_get_23
end
section
set_option maxHeartbeats 4000000 in
set_option maxRecDepth 100000 in
/-- Signs(0) -/
theorem c_Signs_init_0 (l : Launch) (dC : Nat → ClassId) (dI : Nat → Nat → Nat) (cI : ClassId) (h0 : Nat) (sz : Nat) : Met l yX1_init wsX1_init ({ frames := 1, cells := 1, slots := 0, locals := 18 }) (va_Pc [.ref h0, .int 0] (fun U => U.heap.size = sz ∧ va_P (dC, dI) vwCl [(h0, .inr (1, [.null, .int 0]))] U.heap ∧ va_K (dC, dI) vwCl [(cI, .int)] U ∧ va_D (fun _ => True) [(h0, .inr (1, [.null, .int 0]))])) (va_Qv (fun (_ : Unit) => True) (fun (_ : Unit) (t : State) => ∃ (q : Nat), va_P (dC, dI) vwCl [(h0, .inr (1, [.ref q, .int 0]))] t.heap ∧ va_K (dC, dI) vwCl [(cI, .int)] t ∧ va_D (va_A [(h0, .inr (1, [.null, .int 0]))] sz) [(h0, .inr (1, [.ref q, .int 0]))]) (va_A [(h0, .inr (1, [.null, .int 0]))] sz)) 1 0 (va_A [(h0, .inr (1, [.null, .int 0]))] sz) := by
  refine Met.ofW (cc := cX1_init) (maxL := 2) (ret := none) (by decide) rfl ?_
  intro p e s m args below meth c s₁ B hml hv
  obtain ⟨rfl, hsz, hP, hK, hD0⟩ := hv
  have hx := B.exec
  have hb := B.bytes
  have hr := B.returns
  have hts := atoms_spec (ws := wsX1_init) B.pre
  have hown : s.vm.findClass RX1 = some m.cls := findClass_of_methodNamed B.named
  have hlocks := B.notSynchronized
  have hin : meth.name = "<init>" := (name_of_methodNamed B.named B.method).1
  subst hsz
  have hD := hD0.self (sz := s.heap.size)
  generalize hAe : va_A [(h0, .inr (1, [.null, .int 0]))] s.heap.size = A at hD ⊢
  have hA : ∀ q : Nat, s.heap.size ≤ q → A q := fun q h => by rw [← hAe]; exact Or.inr h
  have hS : va_S A s.heap s.heap [] := va_S.rf
  have hP : va_P (dC, dI) vwCl [(h0, .inr (1, [.null, .int 0]))] s.heap := hP
  have hl := lv_entry ([.ref h0, .int 0]) (n := 2) (Nat.le_of_ble_eq_true rfl)
  rw [lg_entry_eq]
  generalize (lg_sl ([.ref h0, .int 0]) ++ List.replicate (2 - (lg_sl ([.ref h0, .int 0])).length) Slot.unset).toArray = ls at hl ⊢
  have hl : lv_has ls 2 [(0, .ref h0), (1, .int 0)] := hl
  obtain ⟨H, hHe⟩ : ∃ H : Heap, H = s.heap := ⟨_, rfl⟩
  rw [← hHe] at hP ⊢
  have hS : va_S A s.heap H [] := by rw [hHe]; exact va_S.rf
  refine lv_aload_n hx hb dX1_init_0 rfl (lv_at hl 0 rfl) ?_
  refine W.objInit hx hb hown (hts (.methodLink RX1 3 objectInit) (List.mem_of_getElem? (i := 1) (by decide +kernel))) (hts (.instanceMethod objectInit) (List.mem_of_getElem? (i := 2) (by decide +kernel))) (hts (.code objectInit ⟨#[0xb1]⟩ 1 none) (List.mem_of_getElem? (i := 3) (by decide +kernel))) rfl (by rw [hml]; exact hl.1) rfl dX1_init_1 (Nat.le_of_ble_eq_true rfl) (Nat.le_of_ble_eq_true rfl) ?_
  refine W.eq (g2 := F0 m 4 ls []) rfl ?_
  refine lv_aload_n hx hb dX1_init_4 rfl (lv_at hl 0 rfl) ?_
  refine lv_iload_n hx hb dX1_init_5 rfl (lv_at hl 1 rfl) ?_
  refine lv_iconst (v := 0) hx hb dX1_init_6 (by decide) ?_
  refine va_mmax hx hb (by rw [hml]; exact hl.1.symm) hown (hts (.methodLink RX1 9 Lib.Math.max.name) (List.mem_of_getElem? (i := 4) (by decide +kernel))) (hts (.static Lib.Math.max.name) (List.mem_of_getElem? (i := 5) (by decide +kernel))) (hts (.initialized "java/lang/Math") (List.mem_of_getElem? (i := 6) (by decide +kernel))) (hts (.code Lib.Math.max.name Lib.Math.max.code 2 (some .int)) (List.mem_of_getElem? (i := 7) (by decide +kernel))) (Nat.le_of_ble_eq_true rfl) (Nat.le_of_ble_eq_true rfl) (Nat.le_of_ble_eq_true rfl) (Nat.le_of_ble_eq_true rfl) dX1_init_7 ?_
  refine lv_topi (fun f_1 ef_1 => ?_)
  have ef_1c : f_1 = 0 := ef_1.trans (by decide)
  subst ef_1c
  refine va_newa (atype := .byte) (ty := .byte) hx hb (hts (.arrayClass .byte) (List.mem_of_getElem? (i := 8) (by decide +kernel))) rfl hK hP hD hS hA (N' := 0) (a0 := (0, .inl (fun _ => 0))) (fun _ => rfl) (by decide) (by decide) (Nat.le_of_ble_eq_true rfl) (Nat.le_of_ble_eq_true rfl) (Nat.le_of_ble_eq_true rfl) dX1_init_10 (fun q_2 cA_3 H hKn hP hD hS => ?_)
  have hP := hP.sub (ws' := [(h0, .inr (1, [.null, .int 0]))]) [0] rfl
  have hD := hD.sub (ws' := [(h0, .inr (1, [.null, .int 0]))]) [0] (by decide) rfl
  refine W.widen (k := 1) (n := 0) (Nat.le_of_ble_eq_true rfl) (Nat.le_of_ble_eq_true rfl) ?_
  refine va_putF (D := (dC, dI)) (ci := 1) (v := .ref q_2) (ty := .array .byte) (C := RX1) (T := TX1) (N := 2) hx hb hts (fun w h => List.mem_cons_of_mem _ (List.mem_append_right _ h)) tyX1 tyX1_ok nmX1 hown hK hP hD hS 0 rfl rfl 0 (by decide) (hts (.fieldLink RX1 15 "PolarTypes$Signs" "kept" "[B") (List.mem_of_getElem? (i := 9) (by decide +kernel))) (fun _ h9 => h9) rfl hin rfl (by decide +kernel) rfl rfl (Nat.le_of_ble_eq_true rfl) dX1_init_12 (fun H locs hP hD hS => ?_)
  have hP : va_P (dC, dI) vwCl [(h0, .inr (1, [.ref q_2, .int 0]))] H := hP
  have hD : va_D A [(h0, .inr (1, [.ref q_2, .int 0]))] := hD
  have hP9 := hP.sub (ws' := [(h0, .inr (1, [.ref q_2, .int 0]))]) [0] rfl
  have hD9 := hD.sub (ws' := [(h0, .inr (1, [.ref q_2, .int 0]))]) [0] (by decide) rfl
  refine W.widen (k := 1) (n := 0) (Nat.le_of_ble_eq_true rfl) (Nat.le_of_ble_eq_true rfl) ?_
  exact W.vret hx hb hr (fun t ht hW => ⟨⟨(), rfl, trivial, q_2, by rw [ht]; exact hP9, va_K.moved hW.alike hK, hD9⟩, hS.F ht⟩) hS.2.2 dX1_init_15

set_option maxHeartbeats 4000000 in
set_option maxRecDepth 100000 in
/-- Signs(200) -/
theorem c_Signs_init_200 (l : Launch) (dC : Nat → ClassId) (dI : Nat → Nat → Nat) (cI : ClassId) (h0 : Nat) (sz : Nat) : Met l yX1_init wsX1_init ({ frames := 1, cells := 1, slots := 200, locals := 18 }) (va_Pc [.ref h0, .int 200] (fun U => U.heap.size = sz ∧ va_P (dC, dI) vwCl [(h0, .inr (1, [.null, .int 0]))] U.heap ∧ va_K (dC, dI) vwCl [(cI, .int)] U ∧ va_D (fun _ => True) [(h0, .inr (1, [.null, .int 0]))])) (va_Qv (fun (_ : Unit) => True) (fun (_ : Unit) (t : State) => ∃ (q : Nat), va_P (dC, dI) vwCl [(h0, .inr (1, [.ref q, .int 0]))] t.heap ∧ va_K (dC, dI) vwCl [(cI, .int)] t ∧ va_D (va_A [(h0, .inr (1, [.null, .int 0]))] sz) [(h0, .inr (1, [.ref q, .int 0]))]) (va_A [(h0, .inr (1, [.null, .int 0]))] sz)) 1 200 (va_A [(h0, .inr (1, [.null, .int 0]))] sz) := by
  refine Met.ofW (cc := cX1_init) (maxL := 2) (ret := none) (by decide) rfl ?_
  intro p e s m args below meth c s₁ B hml hv
  obtain ⟨rfl, hsz, hP, hK, hD0⟩ := hv
  have hx := B.exec
  have hb := B.bytes
  have hr := B.returns
  have hts := atoms_spec (ws := wsX1_init) B.pre
  have hown : s.vm.findClass RX1 = some m.cls := findClass_of_methodNamed B.named
  have hlocks := B.notSynchronized
  have hin : meth.name = "<init>" := (name_of_methodNamed B.named B.method).1
  subst hsz
  have hD := hD0.self (sz := s.heap.size)
  generalize hAe : va_A [(h0, .inr (1, [.null, .int 0]))] s.heap.size = A at hD ⊢
  have hA : ∀ q : Nat, s.heap.size ≤ q → A q := fun q h => by rw [← hAe]; exact Or.inr h
  have hS : va_S A s.heap s.heap [] := va_S.rf
  have hP : va_P (dC, dI) vwCl [(h0, .inr (1, [.null, .int 0]))] s.heap := hP
  have hl := lv_entry ([.ref h0, .int 200]) (n := 2) (Nat.le_of_ble_eq_true rfl)
  rw [lg_entry_eq]
  generalize (lg_sl ([.ref h0, .int 200]) ++ List.replicate (2 - (lg_sl ([.ref h0, .int 200])).length) Slot.unset).toArray = ls at hl ⊢
  have hl : lv_has ls 2 [(0, .ref h0), (1, .int 200)] := hl
  obtain ⟨H, hHe⟩ : ∃ H : Heap, H = s.heap := ⟨_, rfl⟩
  rw [← hHe] at hP ⊢
  have hS : va_S A s.heap H [] := by rw [hHe]; exact va_S.rf
  refine lv_aload_n hx hb dX1_init_0 rfl (lv_at hl 0 rfl) ?_
  refine W.objInit hx hb hown (hts (.methodLink RX1 3 objectInit) (List.mem_of_getElem? (i := 1) (by decide +kernel))) (hts (.instanceMethod objectInit) (List.mem_of_getElem? (i := 2) (by decide +kernel))) (hts (.code objectInit ⟨#[0xb1]⟩ 1 none) (List.mem_of_getElem? (i := 3) (by decide +kernel))) rfl (by rw [hml]; exact hl.1) rfl dX1_init_1 (Nat.le_of_ble_eq_true rfl) (Nat.le_of_ble_eq_true rfl) ?_
  refine W.eq (g2 := F0 m 4 ls []) rfl ?_
  refine lv_aload_n hx hb dX1_init_4 rfl (lv_at hl 0 rfl) ?_
  refine lv_iload_n hx hb dX1_init_5 rfl (lv_at hl 1 rfl) ?_
  refine lv_iconst (v := 0) hx hb dX1_init_6 (by decide) ?_
  refine va_mmax hx hb (by rw [hml]; exact hl.1.symm) hown (hts (.methodLink RX1 9 Lib.Math.max.name) (List.mem_of_getElem? (i := 4) (by decide +kernel))) (hts (.static Lib.Math.max.name) (List.mem_of_getElem? (i := 5) (by decide +kernel))) (hts (.initialized "java/lang/Math") (List.mem_of_getElem? (i := 6) (by decide +kernel))) (hts (.code Lib.Math.max.name Lib.Math.max.code 2 (some .int)) (List.mem_of_getElem? (i := 7) (by decide +kernel))) (Nat.le_of_ble_eq_true rfl) (Nat.le_of_ble_eq_true rfl) (Nat.le_of_ble_eq_true rfl) (Nat.le_of_ble_eq_true rfl) dX1_init_7 ?_
  refine lv_topi (fun f_1 ef_1 => ?_)
  have ef_1c : f_1 = 200 := ef_1.trans (by decide)
  subst ef_1c
  refine va_newa (atype := .byte) (ty := .byte) hx hb (hts (.arrayClass .byte) (List.mem_of_getElem? (i := 8) (by decide +kernel))) rfl hK hP hD hS hA (N' := 200) (a0 := (200, .inl (fun _ => 0))) (fun _ => rfl) (by decide) (by decide) (Nat.le_of_ble_eq_true rfl) (Nat.le_of_ble_eq_true rfl) (Nat.le_of_ble_eq_true rfl) dX1_init_10 (fun q_2 cA_3 H hKn hP hD hS => ?_)
  have hP := hP.sub (ws' := [(h0, .inr (1, [.null, .int 0]))]) [0] rfl
  have hD := hD.sub (ws' := [(h0, .inr (1, [.null, .int 0]))]) [0] (by decide) rfl
  refine W.widen (k := 1) (n := 200) (Nat.le_of_ble_eq_true rfl) (Nat.le_of_ble_eq_true rfl) ?_
  refine va_putF (D := (dC, dI)) (ci := 1) (v := .ref q_2) (ty := .array .byte) (C := RX1) (T := TX1) (N := 2) hx hb hts (fun w h => List.mem_cons_of_mem _ (List.mem_append_right _ h)) tyX1 tyX1_ok nmX1 hown hK hP hD hS 0 rfl rfl 0 (by decide) (hts (.fieldLink RX1 15 "PolarTypes$Signs" "kept" "[B") (List.mem_of_getElem? (i := 9) (by decide +kernel))) (fun _ h9 => h9) rfl hin rfl (by decide +kernel) rfl rfl (Nat.le_of_ble_eq_true rfl) dX1_init_12 (fun H locs hP hD hS => ?_)
  have hP : va_P (dC, dI) vwCl [(h0, .inr (1, [.ref q_2, .int 0]))] H := hP
  have hD : va_D A [(h0, .inr (1, [.ref q_2, .int 0]))] := hD
  have hP9 := hP.sub (ws' := [(h0, .inr (1, [.ref q_2, .int 0]))]) [0] rfl
  have hD9 := hD.sub (ws' := [(h0, .inr (1, [.ref q_2, .int 0]))]) [0] (by decide) rfl
  refine W.widen (k := 1) (n := 200) (Nat.le_of_ble_eq_true rfl) (Nat.le_of_ble_eq_true rfl) ?_
  exact W.vret hx hb hr (fun t ht hW => ⟨⟨(), rfl, trivial, q_2, by rw [ht]; exact hP9, va_K.moved hW.alike hK, hD9⟩, hS.F ht⟩) hS.2.2 dX1_init_15

set_option maxHeartbeats 4000000 in
set_option maxRecDepth 100000 in
/-- Signs(400) -/
theorem c_Signs_init_400 (l : Launch) (dC : Nat → ClassId) (dI : Nat → Nat → Nat) (cI : ClassId) (h0 : Nat) (sz : Nat) : Met l yX1_init wsX1_init ({ frames := 1, cells := 1, slots := 400, locals := 18 }) (va_Pc [.ref h0, .int 400] (fun U => U.heap.size = sz ∧ va_P (dC, dI) vwCl [(h0, .inr (1, [.null, .int 0]))] U.heap ∧ va_K (dC, dI) vwCl [(cI, .int)] U ∧ va_D (fun _ => True) [(h0, .inr (1, [.null, .int 0]))])) (va_Qv (fun (_ : Unit) => True) (fun (_ : Unit) (t : State) => ∃ (q : Nat), va_P (dC, dI) vwCl [(h0, .inr (1, [.ref q, .int 0]))] t.heap ∧ va_K (dC, dI) vwCl [(cI, .int)] t ∧ va_D (va_A [(h0, .inr (1, [.null, .int 0]))] sz) [(h0, .inr (1, [.ref q, .int 0]))]) (va_A [(h0, .inr (1, [.null, .int 0]))] sz)) 1 400 (va_A [(h0, .inr (1, [.null, .int 0]))] sz) := by
  refine Met.ofW (cc := cX1_init) (maxL := 2) (ret := none) (by decide) rfl ?_
  intro p e s m args below meth c s₁ B hml hv
  obtain ⟨rfl, hsz, hP, hK, hD0⟩ := hv
  have hx := B.exec
  have hb := B.bytes
  have hr := B.returns
  have hts := atoms_spec (ws := wsX1_init) B.pre
  have hown : s.vm.findClass RX1 = some m.cls := findClass_of_methodNamed B.named
  have hlocks := B.notSynchronized
  have hin : meth.name = "<init>" := (name_of_methodNamed B.named B.method).1
  subst hsz
  have hD := hD0.self (sz := s.heap.size)
  generalize hAe : va_A [(h0, .inr (1, [.null, .int 0]))] s.heap.size = A at hD ⊢
  have hA : ∀ q : Nat, s.heap.size ≤ q → A q := fun q h => by rw [← hAe]; exact Or.inr h
  have hS : va_S A s.heap s.heap [] := va_S.rf
  have hP : va_P (dC, dI) vwCl [(h0, .inr (1, [.null, .int 0]))] s.heap := hP
  have hl := lv_entry ([.ref h0, .int 400]) (n := 2) (Nat.le_of_ble_eq_true rfl)
  rw [lg_entry_eq]
  generalize (lg_sl ([.ref h0, .int 400]) ++ List.replicate (2 - (lg_sl ([.ref h0, .int 400])).length) Slot.unset).toArray = ls at hl ⊢
  have hl : lv_has ls 2 [(0, .ref h0), (1, .int 400)] := hl
  obtain ⟨H, hHe⟩ : ∃ H : Heap, H = s.heap := ⟨_, rfl⟩
  rw [← hHe] at hP ⊢
  have hS : va_S A s.heap H [] := by rw [hHe]; exact va_S.rf
  refine lv_aload_n hx hb dX1_init_0 rfl (lv_at hl 0 rfl) ?_
  refine W.objInit hx hb hown (hts (.methodLink RX1 3 objectInit) (List.mem_of_getElem? (i := 1) (by decide +kernel))) (hts (.instanceMethod objectInit) (List.mem_of_getElem? (i := 2) (by decide +kernel))) (hts (.code objectInit ⟨#[0xb1]⟩ 1 none) (List.mem_of_getElem? (i := 3) (by decide +kernel))) rfl (by rw [hml]; exact hl.1) rfl dX1_init_1 (Nat.le_of_ble_eq_true rfl) (Nat.le_of_ble_eq_true rfl) ?_
  refine W.eq (g2 := F0 m 4 ls []) rfl ?_
  refine lv_aload_n hx hb dX1_init_4 rfl (lv_at hl 0 rfl) ?_
  refine lv_iload_n hx hb dX1_init_5 rfl (lv_at hl 1 rfl) ?_
  refine lv_iconst (v := 0) hx hb dX1_init_6 (by decide) ?_
  refine va_mmax hx hb (by rw [hml]; exact hl.1.symm) hown (hts (.methodLink RX1 9 Lib.Math.max.name) (List.mem_of_getElem? (i := 4) (by decide +kernel))) (hts (.static Lib.Math.max.name) (List.mem_of_getElem? (i := 5) (by decide +kernel))) (hts (.initialized "java/lang/Math") (List.mem_of_getElem? (i := 6) (by decide +kernel))) (hts (.code Lib.Math.max.name Lib.Math.max.code 2 (some .int)) (List.mem_of_getElem? (i := 7) (by decide +kernel))) (Nat.le_of_ble_eq_true rfl) (Nat.le_of_ble_eq_true rfl) (Nat.le_of_ble_eq_true rfl) (Nat.le_of_ble_eq_true rfl) dX1_init_7 ?_
  refine lv_topi (fun f_1 ef_1 => ?_)
  have ef_1c : f_1 = 400 := ef_1.trans (by decide)
  subst ef_1c
  refine va_newa (atype := .byte) (ty := .byte) hx hb (hts (.arrayClass .byte) (List.mem_of_getElem? (i := 8) (by decide +kernel))) rfl hK hP hD hS hA (N' := 400) (a0 := (400, .inl (fun _ => 0))) (fun _ => rfl) (by decide) (by decide) (Nat.le_of_ble_eq_true rfl) (Nat.le_of_ble_eq_true rfl) (Nat.le_of_ble_eq_true rfl) dX1_init_10 (fun q_2 cA_3 H hKn hP hD hS => ?_)
  have hP := hP.sub (ws' := [(h0, .inr (1, [.null, .int 0]))]) [0] rfl
  have hD := hD.sub (ws' := [(h0, .inr (1, [.null, .int 0]))]) [0] (by decide) rfl
  refine W.widen (k := 1) (n := 400) (Nat.le_of_ble_eq_true rfl) (Nat.le_of_ble_eq_true rfl) ?_
  refine va_putF (D := (dC, dI)) (ci := 1) (v := .ref q_2) (ty := .array .byte) (C := RX1) (T := TX1) (N := 2) hx hb hts (fun w h => List.mem_cons_of_mem _ (List.mem_append_right _ h)) tyX1 tyX1_ok nmX1 hown hK hP hD hS 0 rfl rfl 0 (by decide) (hts (.fieldLink RX1 15 "PolarTypes$Signs" "kept" "[B") (List.mem_of_getElem? (i := 9) (by decide +kernel))) (fun _ h9 => h9) rfl hin rfl (by decide +kernel) rfl rfl (Nat.le_of_ble_eq_true rfl) dX1_init_12 (fun H locs hP hD hS => ?_)
  have hP : va_P (dC, dI) vwCl [(h0, .inr (1, [.ref q_2, .int 0]))] H := hP
  have hD : va_D A [(h0, .inr (1, [.ref q_2, .int 0]))] := hD
  have hP9 := hP.sub (ws' := [(h0, .inr (1, [.ref q_2, .int 0]))]) [0] rfl
  have hD9 := hD.sub (ws' := [(h0, .inr (1, [.ref q_2, .int 0]))]) [0] (by decide) rfl
  refine W.widen (k := 1) (n := 400) (Nat.le_of_ble_eq_true rfl) (Nat.le_of_ble_eq_true rfl) ?_
  exact W.vret hx hb hr (fun t ht hW => ⟨⟨(), rfl, trivial, q_2, by rw [ht]; exact hP9, va_K.moved hW.alike hK, hD9⟩, hS.F ht⟩) hS.2.2 dX1_init_15
end
section
set_option maxHeartbeats 4000000 in
set_option maxRecDepth 100000 in
/-- Tree(): six empty rows -/
theorem c_Tree_init (l : Launch) (dC : Nat → ClassId) (dI : Nat → Nat → Nat) (cI : ClassId) (h0 : Nat) (sz : Nat) : Met l yX3_init wsX3_init ({ frames := 2, cells := 12, slots := 36, locals := 34 }) (va_Pc [.ref h0] (fun U => U.heap.size = sz ∧ va_P (dC, dI) vwCl [(h0, .inr (3, [.null, .null, .null, .null, .null, .null]))] U.heap ∧ va_K (dC, dI) vwCl [(cI, .int)] U ∧ va_D (fun _ => True) [(h0, .inr (3, [.null, .null, .null, .null, .null, .null]))])) (va_Qv (fun (_ : Unit) => True) (fun (_ : Unit) (t : State) => ∃ (td : Nat → Nat), ∃ (te : Nat → Nat), va_P (dC, dI) vwCl [(h0, .inr (3, [.ref (td 0), .ref (td 1), .ref (td 2), .ref (td 3), .ref (td 4), .ref (td 5)])), (td 0, .inr (0, [.ref (te 0), .int (nI 0)])), (te 0, .inl (cI, 4, .inl (fun _ => 0))), (td 1, .inr (0, [.ref (te 1), .int (nI 0)])), (te 1, .inl (cI, 4, .inl (fun _ => 0))), (td 2, .inr (0, [.ref (te 2), .int (nI 0)])), (te 2, .inl (cI, 4, .inl (fun _ => 0))), (td 3, .inr (0, [.ref (te 3), .int (nI 0)])), (te 3, .inl (cI, 4, .inl (fun _ => 0))), (td 4, .inr (0, [.ref (te 4), .int (nI 0)])), (te 4, .inl (cI, 4, .inl (fun _ => 0))), (td 5, .inr (0, [.ref (te 5), .int (nI 0)])), (te 5, .inl (cI, 4, .inl (fun _ => 0)))] t.heap ∧ va_K (dC, dI) vwCl [(cI, .int)] t ∧ va_D (va_A [(h0, .inr (3, [.null, .null, .null, .null, .null, .null]))] sz) [(h0, .inr (3, [.ref (td 0), .ref (td 1), .ref (td 2), .ref (td 3), .ref (td 4), .ref (td 5)])), (td 0, .inr (0, [.ref (te 0), .int (nI 0)])), (te 0, .inl (cI, 4, .inl (fun _ => 0))), (td 1, .inr (0, [.ref (te 1), .int (nI 0)])), (te 1, .inl (cI, 4, .inl (fun _ => 0))), (td 2, .inr (0, [.ref (te 2), .int (nI 0)])), (te 2, .inl (cI, 4, .inl (fun _ => 0))), (td 3, .inr (0, [.ref (te 3), .int (nI 0)])), (te 3, .inl (cI, 4, .inl (fun _ => 0))), (td 4, .inr (0, [.ref (te 4), .int (nI 0)])), (te 4, .inl (cI, 4, .inl (fun _ => 0))), (td 5, .inr (0, [.ref (te 5), .int (nI 0)])), (te 5, .inl (cI, 4, .inl (fun _ => 0)))]) (va_A [(h0, .inr (3, [.null, .null, .null, .null, .null, .null]))] sz)) 12 36 (va_A [(h0, .inr (3, [.null, .null, .null, .null, .null, .null]))] sz) := by
  refine Met.ofW (cc := cX3_init) (maxL := 1) (ret := none) (by decide) rfl ?_
  intro p e s m args below meth c s₁ B hml hv
  obtain ⟨rfl, hsz, hP, hK, hD0⟩ := hv
  have hx := B.exec
  have hb := B.bytes
  have hr := B.returns
  have hts := atoms_spec (ws := wsX3_init) B.pre
  have hown : s.vm.findClass RX3 = some m.cls := findClass_of_methodNamed B.named
  have hlocks := B.notSynchronized
  have hin : meth.name = "<init>" := (name_of_methodNamed B.named B.method).1
  subst hsz
  have hD := hD0.self (sz := s.heap.size)
  generalize hAe : va_A [(h0, .inr (3, [.null, .null, .null, .null, .null, .null]))] s.heap.size = A at hD ⊢
  have hA : ∀ q : Nat, s.heap.size ≤ q → A q := fun q h => by rw [← hAe]; exact Or.inr h
  have hS : va_S A s.heap s.heap [] := va_S.rf
  have hP : va_P (dC, dI) vwCl [(h0, .inr (3, [.null, .null, .null, .null, .null, .null]))] s.heap := hP
  have hl := lv_entry ([.ref h0]) (n := 1) (Nat.le_of_ble_eq_true rfl)
  rw [lg_entry_eq]
  generalize (lg_sl ([.ref h0]) ++ List.replicate (1 - (lg_sl ([.ref h0])).length) Slot.unset).toArray = ls at hl ⊢
  have hl : lv_has ls 1 [(0, .ref h0)] := hl
  obtain ⟨H, hHe⟩ : ∃ H : Heap, H = s.heap := ⟨_, rfl⟩
  rw [← hHe] at hP ⊢
  have hS : va_S A s.heap H [] := by rw [hHe]; exact va_S.rf
  refine lv_aload_n hx hb dX3_init_0 rfl (lv_at hl 0 rfl) ?_
  refine W.objInit hx hb hown (hts (.methodLink RX3 3 objectInit) (List.mem_of_getElem? (i := 1) (by decide +kernel))) (hts (.instanceMethod objectInit) (List.mem_of_getElem? (i := 2) (by decide +kernel))) (hts (.code objectInit ⟨#[0xb1]⟩ 1 none) (List.mem_of_getElem? (i := 3) (by decide +kernel))) rfl (by rw [hml]; exact hl.1) rfl dX3_init_1 (Nat.le_of_ble_eq_true rfl) (Nat.le_of_ble_eq_true rfl) ?_
  refine W.eq (g2 := F0 m 4 ls []) rfl ?_
  refine lv_aload_n hx hb dX3_init_4 rfl (lv_at hl 0 rfl) ?_
  refine va_new (ci := 0) (fs := [.null, .int 0]) (C := RX0) (T := TX0) (N := 2) hx hb hts (fun w h => List.mem_cons_of_mem _ (List.mem_append_left _ (List.mem_append_right _ h))) tyX0 tyX0_ok hown (hts (.classLink RX3 9 RX0) (List.mem_of_getElem? (i := 4) (by decide +kernel))) (hts (.instantiable RX0 2) (List.mem_of_getElem? (i := 5) (by decide +kernel))) (hts (.initialized RX0) (List.mem_of_getElem? (i := 6) (by decide +kernel))) hK hP hD hS hA rfl (by decide +kernel) (Nat.le_of_ble_eq_true rfl) (Nat.le_of_ble_eq_true rfl) dX3_init_5 (fun q_1 H hP hD hS => ?_)
  have hP : va_P (dC, dI) vwCl [(h0, .inr (3, [.null, .null, .null, .null, .null, .null])), (q_1, .inr (0, [.null, .int 0]))] H := hP
  have hD : va_D A [(h0, .inr (3, [.null, .null, .null, .null, .null, .null])), (q_1, .inr (0, [.null, .int 0]))] := hD
  refine W.widen (k := 1) (n := 2) (Nat.le_of_ble_eq_true rfl) (Nat.le_of_ble_eq_true rfl) ?_
  refine lv_dup hx hb dX3_init_8 rfl ?_
  have hPc := hP.sub (ws' := [(q_1, .inr (0, [.null, .int 0]))]) [1] rfl
  have hDc := hD.sub (ws' := [(q_1, .inr (0, [.null, .int 0]))]) [1] (by decide) rfl
  have hFc := va_free (wc := [(q_1, .inr (0, [.null, .int 0]))]) hD hS hA [1] rfl
  refine va_callv (va_runI (As := []) (rest := [.ref q_1, .ref h0]) ⟨hx, hb, hml, hown, hts⟩ (c_Row_init l dC dI cI q_1 H.size) (cwI 0 hts gX3_init_X0_init rfl rfl rfl (hts (.initialized RX0) (List.mem_of_getElem? (i := 6) (by decide +kernel))) (hts (.methodLink RX3 11 yX0_init) (List.mem_of_getElem? (i := 13) (by decide +kernel))) (hts (.instanceMethod yX0_init) (List.mem_of_getElem? (i := 14) (by decide +kernel))) rfl (by decide +kernel) ⟨Nat.le_of_ble_eq_true rfl, Nat.le_of_ble_eq_true rfl⟩) ⟨fun a U g mk q => by obtain ⟨q0, q1, qP, qK, qD⟩ := q; exact ⟨q0, q1, qP, va_K.moved (u := U) (U := U.calling g mk a) (Vm.Alike.refl U.vm) qK, qD⟩, fun U hU hW => ⟨rfl, by rw [hU], by rw [hU]; exact hPc, va_K.moved hW.alike hK, hDc.weaken (fun _ _ _ _ => trivial)⟩⟩ rfl rfl hl.1 rfl (lv_room (Nat.le_of_ble_eq_true rfl)) dX3_init_9 ⟨Nat.le_of_ble_eq_true rfl, Nat.le_of_ble_eq_true rfl⟩) hS (fun q _ h => hFc q h) hFc (fun u t H1 locs ht hvm hw hB hz1 hk1 hS => ?_)
  obtain ⟨y_3, hP1, hK1, hD1⟩ := hB
  rw [ht] at hP1
  obtain ⟨hP, hD⟩ := va_join (wr := [(h0, .inr (3, [.null, .null, .null, .null, .null, .null]))]) (w1 := [(q_1, .inr (0, [.ref y_3, .int (nI 0)])), (y_3, .inl (cI, 4, .inl (fun _ => 0)))]) hP hD [1] [0] rfl rfl (by decide) (by decide) hk1 hFc hP1 hD1
  generalize H1 = H at hP hS ⊢
  have hP : va_P (dC, dI) vwCl [(h0, .inr (3, [.null, .null, .null, .null, .null, .null])), (q_1, .inr (0, [.ref y_3, .int (nI 0)])), (y_3, .inl (cI, 4, .inl (fun _ => 0)))] H := hP
  have hD : va_D A [(h0, .inr (3, [.null, .null, .null, .null, .null, .null])), (q_1, .inr (0, [.ref y_3, .int (nI 0)])), (y_3, .inl (cI, 4, .inl (fun _ => 0)))] := hD
  refine W.widen (k := 2) (n := 6) (Nat.le_of_ble_eq_true rfl) (Nat.le_of_ble_eq_true rfl) ?_
  refine va_putF (D := (dC, dI)) (ci := 3) (v := .ref q_1) (ty := .object "PolarTypes$Row") (C := RX3) (T := TX3) (N := 6) hx hb hts (fun w h => List.mem_cons_of_mem _ (List.mem_append_right _ h)) tyX3 tyX3_ok nmX3 hown hK hP hD hS 0 rfl rfl 0 (by decide) (hts (.fieldLink RX3 12 "PolarTypes$Tree" "kinds" "LPolarTypes$Row;") (List.mem_of_getElem? (i := 7) (by decide +kernel))) (fun _ h9 => h9) rfl hin rfl (by decide +kernel) rfl rfl (Nat.le_of_ble_eq_true rfl) dX3_init_12 (fun H locs hP hD hS => ?_)
  have hP : va_P (dC, dI) vwCl [(h0, .inr (3, [.ref q_1, .null, .null, .null, .null, .null])), (q_1, .inr (0, [.ref y_3, .int (nI 0)])), (y_3, .inl (cI, 4, .inl (fun _ => 0)))] H := hP
  have hD : va_D A [(h0, .inr (3, [.ref q_1, .null, .null, .null, .null, .null])), (q_1, .inr (0, [.ref y_3, .int (nI 0)])), (y_3, .inl (cI, 4, .inl (fun _ => 0)))] := hD
  refine lv_aload_n hx hb dX3_init_15 rfl (lv_at hl 0 rfl) ?_
  refine va_new (ci := 0) (fs := [.null, .int 0]) (C := RX0) (T := TX0) (N := 2) hx hb hts (fun w h => List.mem_cons_of_mem _ (List.mem_append_left _ (List.mem_append_right _ h))) tyX0 tyX0_ok hown (hts (.classLink RX3 9 RX0) (List.mem_of_getElem? (i := 4) (by decide +kernel))) (hts (.instantiable RX0 2) (List.mem_of_getElem? (i := 5) (by decide +kernel))) (hts (.initialized RX0) (List.mem_of_getElem? (i := 6) (by decide +kernel))) hK hP hD hS hA rfl (by decide +kernel) (Nat.le_of_ble_eq_true rfl) (Nat.le_of_ble_eq_true rfl) dX3_init_16 (fun q_4 H hP hD hS => ?_)
  have hP : va_P (dC, dI) vwCl [(h0, .inr (3, [.ref q_1, .null, .null, .null, .null, .null])), (q_1, .inr (0, [.ref y_3, .int (nI 0)])), (y_3, .inl (cI, 4, .inl (fun _ => 0))), (q_4, .inr (0, [.null, .int 0]))] H := hP
  have hD : va_D A [(h0, .inr (3, [.ref q_1, .null, .null, .null, .null, .null])), (q_1, .inr (0, [.ref y_3, .int (nI 0)])), (y_3, .inl (cI, 4, .inl (fun _ => 0))), (q_4, .inr (0, [.null, .int 0]))] := hD
  refine W.widen (k := 3) (n := 8) (Nat.le_of_ble_eq_true rfl) (Nat.le_of_ble_eq_true rfl) ?_
  refine lv_dup hx hb dX3_init_19 rfl ?_
  have hPc := hP.sub (ws' := [(q_4, .inr (0, [.null, .int 0]))]) [3] rfl
  have hDc := hD.sub (ws' := [(q_4, .inr (0, [.null, .int 0]))]) [3] (by decide) rfl
  have hFc := va_free (wc := [(q_4, .inr (0, [.null, .int 0]))]) hD hS hA [3] rfl
  refine va_callv (va_runI (As := []) (rest := [.ref q_4, .ref h0]) ⟨hx, hb, hml, hown, hts⟩ (c_Row_init l dC dI cI q_4 H.size) (cwI 0 hts gX3_init_X0_init rfl rfl rfl (hts (.initialized RX0) (List.mem_of_getElem? (i := 6) (by decide +kernel))) (hts (.methodLink RX3 11 yX0_init) (List.mem_of_getElem? (i := 13) (by decide +kernel))) (hts (.instanceMethod yX0_init) (List.mem_of_getElem? (i := 14) (by decide +kernel))) rfl (by decide +kernel) ⟨Nat.le_of_ble_eq_true rfl, Nat.le_of_ble_eq_true rfl⟩) ⟨fun a U g mk q => by obtain ⟨q0, q1, qP, qK, qD⟩ := q; exact ⟨q0, q1, qP, va_K.moved (u := U) (U := U.calling g mk a) (Vm.Alike.refl U.vm) qK, qD⟩, fun U hU hW => ⟨rfl, by rw [hU], by rw [hU]; exact hPc, va_K.moved hW.alike hK, hDc.weaken (fun _ _ _ _ => trivial)⟩⟩ rfl rfl hl.1 rfl (lv_room (Nat.le_of_ble_eq_true rfl)) dX3_init_20 ⟨Nat.le_of_ble_eq_true rfl, Nat.le_of_ble_eq_true rfl⟩) hS (fun q _ h => hFc q h) hFc (fun u t H1 locs ht hvm hw hB hz1 hk1 hS => ?_)
  obtain ⟨y_6, hP1, hK1, hD1⟩ := hB
  rw [ht] at hP1
  obtain ⟨hP, hD⟩ := va_join (wr := [(h0, .inr (3, [.ref q_1, .null, .null, .null, .null, .null])), (q_1, .inr (0, [.ref y_3, .int (nI 0)])), (y_3, .inl (cI, 4, .inl (fun _ => 0)))]) (w1 := [(q_4, .inr (0, [.ref y_6, .int (nI 0)])), (y_6, .inl (cI, 4, .inl (fun _ => 0)))]) hP hD [3] [0, 1, 2] rfl rfl (by decide) (by decide) hk1 hFc hP1 hD1
  generalize H1 = H at hP hS ⊢
  have hP : va_P (dC, dI) vwCl [(h0, .inr (3, [.ref q_1, .null, .null, .null, .null, .null])), (q_1, .inr (0, [.ref y_3, .int (nI 0)])), (y_3, .inl (cI, 4, .inl (fun _ => 0))), (q_4, .inr (0, [.ref y_6, .int (nI 0)])), (y_6, .inl (cI, 4, .inl (fun _ => 0)))] H := hP
  have hD : va_D A [(h0, .inr (3, [.ref q_1, .null, .null, .null, .null, .null])), (q_1, .inr (0, [.ref y_3, .int (nI 0)])), (y_3, .inl (cI, 4, .inl (fun _ => 0))), (q_4, .inr (0, [.ref y_6, .int (nI 0)])), (y_6, .inl (cI, 4, .inl (fun _ => 0)))] := hD
  refine W.widen (k := 4) (n := 12) (Nat.le_of_ble_eq_true rfl) (Nat.le_of_ble_eq_true rfl) ?_
  refine va_putF (D := (dC, dI)) (ci := 3) (v := .ref q_4) (ty := .object "PolarTypes$Row") (C := RX3) (T := TX3) (N := 6) hx hb hts (fun w h => List.mem_cons_of_mem _ (List.mem_append_right _ h)) tyX3 tyX3_ok nmX3 hown hK hP hD hS 0 rfl rfl 1 (by decide) (hts (.fieldLink RX3 18 "PolarTypes$Tree" "marks" "LPolarTypes$Row;") (List.mem_of_getElem? (i := 8) (by decide +kernel))) (fun _ h9 => h9) rfl hin rfl (by decide +kernel) rfl rfl (Nat.le_of_ble_eq_true rfl) dX3_init_23 (fun H locs hP hD hS => ?_)
  have hP : va_P (dC, dI) vwCl [(h0, .inr (3, [.ref q_1, .ref q_4, .null, .null, .null, .null])), (q_1, .inr (0, [.ref y_3, .int (nI 0)])), (y_3, .inl (cI, 4, .inl (fun _ => 0))), (q_4, .inr (0, [.ref y_6, .int (nI 0)])), (y_6, .inl (cI, 4, .inl (fun _ => 0)))] H := hP
  have hD : va_D A [(h0, .inr (3, [.ref q_1, .ref q_4, .null, .null, .null, .null])), (q_1, .inr (0, [.ref y_3, .int (nI 0)])), (y_3, .inl (cI, 4, .inl (fun _ => 0))), (q_4, .inr (0, [.ref y_6, .int (nI 0)])), (y_6, .inl (cI, 4, .inl (fun _ => 0)))] := hD
  refine lv_aload_n hx hb dX3_init_26 rfl (lv_at hl 0 rfl) ?_
  refine va_new (ci := 0) (fs := [.null, .int 0]) (C := RX0) (T := TX0) (N := 2) hx hb hts (fun w h => List.mem_cons_of_mem _ (List.mem_append_left _ (List.mem_append_right _ h))) tyX0 tyX0_ok hown (hts (.classLink RX3 9 RX0) (List.mem_of_getElem? (i := 4) (by decide +kernel))) (hts (.instantiable RX0 2) (List.mem_of_getElem? (i := 5) (by decide +kernel))) (hts (.initialized RX0) (List.mem_of_getElem? (i := 6) (by decide +kernel))) hK hP hD hS hA rfl (by decide +kernel) (Nat.le_of_ble_eq_true rfl) (Nat.le_of_ble_eq_true rfl) dX3_init_27 (fun q_7 H hP hD hS => ?_)
  have hP : va_P (dC, dI) vwCl [(h0, .inr (3, [.ref q_1, .ref q_4, .null, .null, .null, .null])), (q_1, .inr (0, [.ref y_3, .int (nI 0)])), (y_3, .inl (cI, 4, .inl (fun _ => 0))), (q_4, .inr (0, [.ref y_6, .int (nI 0)])), (y_6, .inl (cI, 4, .inl (fun _ => 0))), (q_7, .inr (0, [.null, .int 0]))] H := hP
  have hD : va_D A [(h0, .inr (3, [.ref q_1, .ref q_4, .null, .null, .null, .null])), (q_1, .inr (0, [.ref y_3, .int (nI 0)])), (y_3, .inl (cI, 4, .inl (fun _ => 0))), (q_4, .inr (0, [.ref y_6, .int (nI 0)])), (y_6, .inl (cI, 4, .inl (fun _ => 0))), (q_7, .inr (0, [.null, .int 0]))] := hD
  refine W.widen (k := 5) (n := 14) (Nat.le_of_ble_eq_true rfl) (Nat.le_of_ble_eq_true rfl) ?_
  refine lv_dup hx hb dX3_init_30 rfl ?_
  have hPc := hP.sub (ws' := [(q_7, .inr (0, [.null, .int 0]))]) [5] rfl
  have hDc := hD.sub (ws' := [(q_7, .inr (0, [.null, .int 0]))]) [5] (by decide) rfl
  have hFc := va_free (wc := [(q_7, .inr (0, [.null, .int 0]))]) hD hS hA [5] rfl
  refine va_callv (va_runI (As := []) (rest := [.ref q_7, .ref h0]) ⟨hx, hb, hml, hown, hts⟩ (c_Row_init l dC dI cI q_7 H.size) (cwI 0 hts gX3_init_X0_init rfl rfl rfl (hts (.initialized RX0) (List.mem_of_getElem? (i := 6) (by decide +kernel))) (hts (.methodLink RX3 11 yX0_init) (List.mem_of_getElem? (i := 13) (by decide +kernel))) (hts (.instanceMethod yX0_init) (List.mem_of_getElem? (i := 14) (by decide +kernel))) rfl (by decide +kernel) ⟨Nat.le_of_ble_eq_true rfl, Nat.le_of_ble_eq_true rfl⟩) ⟨fun a U g mk q => by obtain ⟨q0, q1, qP, qK, qD⟩ := q; exact ⟨q0, q1, qP, va_K.moved (u := U) (U := U.calling g mk a) (Vm.Alike.refl U.vm) qK, qD⟩, fun U hU hW => ⟨rfl, by rw [hU], by rw [hU]; exact hPc, va_K.moved hW.alike hK, hDc.weaken (fun _ _ _ _ => trivial)⟩⟩ rfl rfl hl.1 rfl (lv_room (Nat.le_of_ble_eq_true rfl)) dX3_init_31 ⟨Nat.le_of_ble_eq_true rfl, Nat.le_of_ble_eq_true rfl⟩) hS (fun q _ h => hFc q h) hFc (fun u t H1 locs ht hvm hw hB hz1 hk1 hS => ?_)
  obtain ⟨y_9, hP1, hK1, hD1⟩ := hB
  rw [ht] at hP1
  obtain ⟨hP, hD⟩ := va_join (wr := [(h0, .inr (3, [.ref q_1, .ref q_4, .null, .null, .null, .null])), (q_1, .inr (0, [.ref y_3, .int (nI 0)])), (y_3, .inl (cI, 4, .inl (fun _ => 0))), (q_4, .inr (0, [.ref y_6, .int (nI 0)])), (y_6, .inl (cI, 4, .inl (fun _ => 0)))]) (w1 := [(q_7, .inr (0, [.ref y_9, .int (nI 0)])), (y_9, .inl (cI, 4, .inl (fun _ => 0)))]) hP hD [5] [0, 1, 2, 3, 4] rfl rfl (by decide) (by decide) hk1 hFc hP1 hD1
  generalize H1 = H at hP hS ⊢
  have hP : va_P (dC, dI) vwCl [(h0, .inr (3, [.ref q_1, .ref q_4, .null, .null, .null, .null])), (q_1, .inr (0, [.ref y_3, .int (nI 0)])), (y_3, .inl (cI, 4, .inl (fun _ => 0))), (q_4, .inr (0, [.ref y_6, .int (nI 0)])), (y_6, .inl (cI, 4, .inl (fun _ => 0))), (q_7, .inr (0, [.ref y_9, .int (nI 0)])), (y_9, .inl (cI, 4, .inl (fun _ => 0)))] H := hP
  have hD : va_D A [(h0, .inr (3, [.ref q_1, .ref q_4, .null, .null, .null, .null])), (q_1, .inr (0, [.ref y_3, .int (nI 0)])), (y_3, .inl (cI, 4, .inl (fun _ => 0))), (q_4, .inr (0, [.ref y_6, .int (nI 0)])), (y_6, .inl (cI, 4, .inl (fun _ => 0))), (q_7, .inr (0, [.ref y_9, .int (nI 0)])), (y_9, .inl (cI, 4, .inl (fun _ => 0)))] := hD
  refine W.widen (k := 6) (n := 18) (Nat.le_of_ble_eq_true rfl) (Nat.le_of_ble_eq_true rfl) ?_
  refine va_putF (D := (dC, dI)) (ci := 3) (v := .ref q_7) (ty := .object "PolarTypes$Row") (C := RX3) (T := TX3) (N := 6) hx hb hts (fun w h => List.mem_cons_of_mem _ (List.mem_append_right _ h)) tyX3 tyX3_ok nmX3 hown hK hP hD hS 0 rfl rfl 2 (by decide) (hts (.fieldLink RX3 21 "PolarTypes$Tree" "owners" "LPolarTypes$Row;") (List.mem_of_getElem? (i := 9) (by decide +kernel))) (fun _ h9 => h9) rfl hin rfl (by decide +kernel) rfl rfl (Nat.le_of_ble_eq_true rfl) dX3_init_34 (fun H locs hP hD hS => ?_)
  have hP : va_P (dC, dI) vwCl [(h0, .inr (3, [.ref q_1, .ref q_4, .ref q_7, .null, .null, .null])), (q_1, .inr (0, [.ref y_3, .int (nI 0)])), (y_3, .inl (cI, 4, .inl (fun _ => 0))), (q_4, .inr (0, [.ref y_6, .int (nI 0)])), (y_6, .inl (cI, 4, .inl (fun _ => 0))), (q_7, .inr (0, [.ref y_9, .int (nI 0)])), (y_9, .inl (cI, 4, .inl (fun _ => 0)))] H := hP
  have hD : va_D A [(h0, .inr (3, [.ref q_1, .ref q_4, .ref q_7, .null, .null, .null])), (q_1, .inr (0, [.ref y_3, .int (nI 0)])), (y_3, .inl (cI, 4, .inl (fun _ => 0))), (q_4, .inr (0, [.ref y_6, .int (nI 0)])), (y_6, .inl (cI, 4, .inl (fun _ => 0))), (q_7, .inr (0, [.ref y_9, .int (nI 0)])), (y_9, .inl (cI, 4, .inl (fun _ => 0)))] := hD
  refine lv_aload_n hx hb dX3_init_37 rfl (lv_at hl 0 rfl) ?_
  refine va_new (ci := 0) (fs := [.null, .int 0]) (C := RX0) (T := TX0) (N := 2) hx hb hts (fun w h => List.mem_cons_of_mem _ (List.mem_append_left _ (List.mem_append_right _ h))) tyX0 tyX0_ok hown (hts (.classLink RX3 9 RX0) (List.mem_of_getElem? (i := 4) (by decide +kernel))) (hts (.instantiable RX0 2) (List.mem_of_getElem? (i := 5) (by decide +kernel))) (hts (.initialized RX0) (List.mem_of_getElem? (i := 6) (by decide +kernel))) hK hP hD hS hA rfl (by decide +kernel) (Nat.le_of_ble_eq_true rfl) (Nat.le_of_ble_eq_true rfl) dX3_init_38 (fun q_10 H hP hD hS => ?_)
  have hP : va_P (dC, dI) vwCl [(h0, .inr (3, [.ref q_1, .ref q_4, .ref q_7, .null, .null, .null])), (q_1, .inr (0, [.ref y_3, .int (nI 0)])), (y_3, .inl (cI, 4, .inl (fun _ => 0))), (q_4, .inr (0, [.ref y_6, .int (nI 0)])), (y_6, .inl (cI, 4, .inl (fun _ => 0))), (q_7, .inr (0, [.ref y_9, .int (nI 0)])), (y_9, .inl (cI, 4, .inl (fun _ => 0))), (q_10, .inr (0, [.null, .int 0]))] H := hP
  have hD : va_D A [(h0, .inr (3, [.ref q_1, .ref q_4, .ref q_7, .null, .null, .null])), (q_1, .inr (0, [.ref y_3, .int (nI 0)])), (y_3, .inl (cI, 4, .inl (fun _ => 0))), (q_4, .inr (0, [.ref y_6, .int (nI 0)])), (y_6, .inl (cI, 4, .inl (fun _ => 0))), (q_7, .inr (0, [.ref y_9, .int (nI 0)])), (y_9, .inl (cI, 4, .inl (fun _ => 0))), (q_10, .inr (0, [.null, .int 0]))] := hD
  refine W.widen (k := 7) (n := 20) (Nat.le_of_ble_eq_true rfl) (Nat.le_of_ble_eq_true rfl) ?_
  refine lv_dup hx hb dX3_init_41 rfl ?_
  have hPc := hP.sub (ws' := [(q_10, .inr (0, [.null, .int 0]))]) [7] rfl
  have hDc := hD.sub (ws' := [(q_10, .inr (0, [.null, .int 0]))]) [7] (by decide) rfl
  have hFc := va_free (wc := [(q_10, .inr (0, [.null, .int 0]))]) hD hS hA [7] rfl
  refine va_callv (va_runI (As := []) (rest := [.ref q_10, .ref h0]) ⟨hx, hb, hml, hown, hts⟩ (c_Row_init l dC dI cI q_10 H.size) (cwI 0 hts gX3_init_X0_init rfl rfl rfl (hts (.initialized RX0) (List.mem_of_getElem? (i := 6) (by decide +kernel))) (hts (.methodLink RX3 11 yX0_init) (List.mem_of_getElem? (i := 13) (by decide +kernel))) (hts (.instanceMethod yX0_init) (List.mem_of_getElem? (i := 14) (by decide +kernel))) rfl (by decide +kernel) ⟨Nat.le_of_ble_eq_true rfl, Nat.le_of_ble_eq_true rfl⟩) ⟨fun a U g mk q => by obtain ⟨q0, q1, qP, qK, qD⟩ := q; exact ⟨q0, q1, qP, va_K.moved (u := U) (U := U.calling g mk a) (Vm.Alike.refl U.vm) qK, qD⟩, fun U hU hW => ⟨rfl, by rw [hU], by rw [hU]; exact hPc, va_K.moved hW.alike hK, hDc.weaken (fun _ _ _ _ => trivial)⟩⟩ rfl rfl hl.1 rfl (lv_room (Nat.le_of_ble_eq_true rfl)) dX3_init_42 ⟨Nat.le_of_ble_eq_true rfl, Nat.le_of_ble_eq_true rfl⟩) hS (fun q _ h => hFc q h) hFc (fun u t H1 locs ht hvm hw hB hz1 hk1 hS => ?_)
  obtain ⟨y_12, hP1, hK1, hD1⟩ := hB
  rw [ht] at hP1
  obtain ⟨hP, hD⟩ := va_join (wr := [(h0, .inr (3, [.ref q_1, .ref q_4, .ref q_7, .null, .null, .null])), (q_1, .inr (0, [.ref y_3, .int (nI 0)])), (y_3, .inl (cI, 4, .inl (fun _ => 0))), (q_4, .inr (0, [.ref y_6, .int (nI 0)])), (y_6, .inl (cI, 4, .inl (fun _ => 0))), (q_7, .inr (0, [.ref y_9, .int (nI 0)])), (y_9, .inl (cI, 4, .inl (fun _ => 0)))]) (w1 := [(q_10, .inr (0, [.ref y_12, .int (nI 0)])), (y_12, .inl (cI, 4, .inl (fun _ => 0)))]) hP hD [7] [0, 1, 2, 3, 4, 5, 6] rfl rfl (by decide) (by decide) hk1 hFc hP1 hD1
  generalize H1 = H at hP hS ⊢
  have hP : va_P (dC, dI) vwCl [(h0, .inr (3, [.ref q_1, .ref q_4, .ref q_7, .null, .null, .null])), (q_1, .inr (0, [.ref y_3, .int (nI 0)])), (y_3, .inl (cI, 4, .inl (fun _ => 0))), (q_4, .inr (0, [.ref y_6, .int (nI 0)])), (y_6, .inl (cI, 4, .inl (fun _ => 0))), (q_7, .inr (0, [.ref y_9, .int (nI 0)])), (y_9, .inl (cI, 4, .inl (fun _ => 0))), (q_10, .inr (0, [.ref y_12, .int (nI 0)])), (y_12, .inl (cI, 4, .inl (fun _ => 0)))] H := hP
  have hD : va_D A [(h0, .inr (3, [.ref q_1, .ref q_4, .ref q_7, .null, .null, .null])), (q_1, .inr (0, [.ref y_3, .int (nI 0)])), (y_3, .inl (cI, 4, .inl (fun _ => 0))), (q_4, .inr (0, [.ref y_6, .int (nI 0)])), (y_6, .inl (cI, 4, .inl (fun _ => 0))), (q_7, .inr (0, [.ref y_9, .int (nI 0)])), (y_9, .inl (cI, 4, .inl (fun _ => 0))), (q_10, .inr (0, [.ref y_12, .int (nI 0)])), (y_12, .inl (cI, 4, .inl (fun _ => 0)))] := hD
  refine W.widen (k := 8) (n := 24) (Nat.le_of_ble_eq_true rfl) (Nat.le_of_ble_eq_true rfl) ?_
  refine va_putF (D := (dC, dI)) (ci := 3) (v := .ref q_10) (ty := .object "PolarTypes$Row") (C := RX3) (T := TX3) (N := 6) hx hb hts (fun w h => List.mem_cons_of_mem _ (List.mem_append_right _ h)) tyX3 tyX3_ok nmX3 hown hK hP hD hS 0 rfl rfl 3 (by decide) (hts (.fieldLink RX3 24 "PolarTypes$Tree" "partCounts" "LPolarTypes$Row;") (List.mem_of_getElem? (i := 10) (by decide +kernel))) (fun _ h9 => h9) rfl hin rfl (by decide +kernel) rfl rfl (Nat.le_of_ble_eq_true rfl) dX3_init_45 (fun H locs hP hD hS => ?_)
  have hP : va_P (dC, dI) vwCl [(h0, .inr (3, [.ref q_1, .ref q_4, .ref q_7, .ref q_10, .null, .null])), (q_1, .inr (0, [.ref y_3, .int (nI 0)])), (y_3, .inl (cI, 4, .inl (fun _ => 0))), (q_4, .inr (0, [.ref y_6, .int (nI 0)])), (y_6, .inl (cI, 4, .inl (fun _ => 0))), (q_7, .inr (0, [.ref y_9, .int (nI 0)])), (y_9, .inl (cI, 4, .inl (fun _ => 0))), (q_10, .inr (0, [.ref y_12, .int (nI 0)])), (y_12, .inl (cI, 4, .inl (fun _ => 0)))] H := hP
  have hD : va_D A [(h0, .inr (3, [.ref q_1, .ref q_4, .ref q_7, .ref q_10, .null, .null])), (q_1, .inr (0, [.ref y_3, .int (nI 0)])), (y_3, .inl (cI, 4, .inl (fun _ => 0))), (q_4, .inr (0, [.ref y_6, .int (nI 0)])), (y_6, .inl (cI, 4, .inl (fun _ => 0))), (q_7, .inr (0, [.ref y_9, .int (nI 0)])), (y_9, .inl (cI, 4, .inl (fun _ => 0))), (q_10, .inr (0, [.ref y_12, .int (nI 0)])), (y_12, .inl (cI, 4, .inl (fun _ => 0)))] := hD
  refine lv_aload_n hx hb dX3_init_48 rfl (lv_at hl 0 rfl) ?_
  refine va_new (ci := 0) (fs := [.null, .int 0]) (C := RX0) (T := TX0) (N := 2) hx hb hts (fun w h => List.mem_cons_of_mem _ (List.mem_append_left _ (List.mem_append_right _ h))) tyX0 tyX0_ok hown (hts (.classLink RX3 9 RX0) (List.mem_of_getElem? (i := 4) (by decide +kernel))) (hts (.instantiable RX0 2) (List.mem_of_getElem? (i := 5) (by decide +kernel))) (hts (.initialized RX0) (List.mem_of_getElem? (i := 6) (by decide +kernel))) hK hP hD hS hA rfl (by decide +kernel) (Nat.le_of_ble_eq_true rfl) (Nat.le_of_ble_eq_true rfl) dX3_init_49 (fun q_13 H hP hD hS => ?_)
  have hP : va_P (dC, dI) vwCl [(h0, .inr (3, [.ref q_1, .ref q_4, .ref q_7, .ref q_10, .null, .null])), (q_1, .inr (0, [.ref y_3, .int (nI 0)])), (y_3, .inl (cI, 4, .inl (fun _ => 0))), (q_4, .inr (0, [.ref y_6, .int (nI 0)])), (y_6, .inl (cI, 4, .inl (fun _ => 0))), (q_7, .inr (0, [.ref y_9, .int (nI 0)])), (y_9, .inl (cI, 4, .inl (fun _ => 0))), (q_10, .inr (0, [.ref y_12, .int (nI 0)])), (y_12, .inl (cI, 4, .inl (fun _ => 0))), (q_13, .inr (0, [.null, .int 0]))] H := hP
  have hD : va_D A [(h0, .inr (3, [.ref q_1, .ref q_4, .ref q_7, .ref q_10, .null, .null])), (q_1, .inr (0, [.ref y_3, .int (nI 0)])), (y_3, .inl (cI, 4, .inl (fun _ => 0))), (q_4, .inr (0, [.ref y_6, .int (nI 0)])), (y_6, .inl (cI, 4, .inl (fun _ => 0))), (q_7, .inr (0, [.ref y_9, .int (nI 0)])), (y_9, .inl (cI, 4, .inl (fun _ => 0))), (q_10, .inr (0, [.ref y_12, .int (nI 0)])), (y_12, .inl (cI, 4, .inl (fun _ => 0))), (q_13, .inr (0, [.null, .int 0]))] := hD
  refine W.widen (k := 9) (n := 26) (Nat.le_of_ble_eq_true rfl) (Nat.le_of_ble_eq_true rfl) ?_
  refine lv_dup hx hb dX3_init_52 rfl ?_
  have hPc := hP.sub (ws' := [(q_13, .inr (0, [.null, .int 0]))]) [9] rfl
  have hDc := hD.sub (ws' := [(q_13, .inr (0, [.null, .int 0]))]) [9] (by decide) rfl
  have hFc := va_free (wc := [(q_13, .inr (0, [.null, .int 0]))]) hD hS hA [9] rfl
  refine va_callv (va_runI (As := []) (rest := [.ref q_13, .ref h0]) ⟨hx, hb, hml, hown, hts⟩ (c_Row_init l dC dI cI q_13 H.size) (cwI 0 hts gX3_init_X0_init rfl rfl rfl (hts (.initialized RX0) (List.mem_of_getElem? (i := 6) (by decide +kernel))) (hts (.methodLink RX3 11 yX0_init) (List.mem_of_getElem? (i := 13) (by decide +kernel))) (hts (.instanceMethod yX0_init) (List.mem_of_getElem? (i := 14) (by decide +kernel))) rfl (by decide +kernel) ⟨Nat.le_of_ble_eq_true rfl, Nat.le_of_ble_eq_true rfl⟩) ⟨fun a U g mk q => by obtain ⟨q0, q1, qP, qK, qD⟩ := q; exact ⟨q0, q1, qP, va_K.moved (u := U) (U := U.calling g mk a) (Vm.Alike.refl U.vm) qK, qD⟩, fun U hU hW => ⟨rfl, by rw [hU], by rw [hU]; exact hPc, va_K.moved hW.alike hK, hDc.weaken (fun _ _ _ _ => trivial)⟩⟩ rfl rfl hl.1 rfl (lv_room (Nat.le_of_ble_eq_true rfl)) dX3_init_53 ⟨Nat.le_of_ble_eq_true rfl, Nat.le_of_ble_eq_true rfl⟩) hS (fun q _ h => hFc q h) hFc (fun u t H1 locs ht hvm hw hB hz1 hk1 hS => ?_)
  obtain ⟨y_15, hP1, hK1, hD1⟩ := hB
  rw [ht] at hP1
  obtain ⟨hP, hD⟩ := va_join (wr := [(h0, .inr (3, [.ref q_1, .ref q_4, .ref q_7, .ref q_10, .null, .null])), (q_1, .inr (0, [.ref y_3, .int (nI 0)])), (y_3, .inl (cI, 4, .inl (fun _ => 0))), (q_4, .inr (0, [.ref y_6, .int (nI 0)])), (y_6, .inl (cI, 4, .inl (fun _ => 0))), (q_7, .inr (0, [.ref y_9, .int (nI 0)])), (y_9, .inl (cI, 4, .inl (fun _ => 0))), (q_10, .inr (0, [.ref y_12, .int (nI 0)])), (y_12, .inl (cI, 4, .inl (fun _ => 0)))]) (w1 := [(q_13, .inr (0, [.ref y_15, .int (nI 0)])), (y_15, .inl (cI, 4, .inl (fun _ => 0)))]) hP hD [9] [0, 1, 2, 3, 4, 5, 6, 7, 8] rfl rfl (by decide) (by decide) hk1 hFc hP1 hD1
  generalize H1 = H at hP hS ⊢
  have hP : va_P (dC, dI) vwCl [(h0, .inr (3, [.ref q_1, .ref q_4, .ref q_7, .ref q_10, .null, .null])), (q_1, .inr (0, [.ref y_3, .int (nI 0)])), (y_3, .inl (cI, 4, .inl (fun _ => 0))), (q_4, .inr (0, [.ref y_6, .int (nI 0)])), (y_6, .inl (cI, 4, .inl (fun _ => 0))), (q_7, .inr (0, [.ref y_9, .int (nI 0)])), (y_9, .inl (cI, 4, .inl (fun _ => 0))), (q_10, .inr (0, [.ref y_12, .int (nI 0)])), (y_12, .inl (cI, 4, .inl (fun _ => 0))), (q_13, .inr (0, [.ref y_15, .int (nI 0)])), (y_15, .inl (cI, 4, .inl (fun _ => 0)))] H := hP
  have hD : va_D A [(h0, .inr (3, [.ref q_1, .ref q_4, .ref q_7, .ref q_10, .null, .null])), (q_1, .inr (0, [.ref y_3, .int (nI 0)])), (y_3, .inl (cI, 4, .inl (fun _ => 0))), (q_4, .inr (0, [.ref y_6, .int (nI 0)])), (y_6, .inl (cI, 4, .inl (fun _ => 0))), (q_7, .inr (0, [.ref y_9, .int (nI 0)])), (y_9, .inl (cI, 4, .inl (fun _ => 0))), (q_10, .inr (0, [.ref y_12, .int (nI 0)])), (y_12, .inl (cI, 4, .inl (fun _ => 0))), (q_13, .inr (0, [.ref y_15, .int (nI 0)])), (y_15, .inl (cI, 4, .inl (fun _ => 0)))] := hD
  refine W.widen (k := 10) (n := 30) (Nat.le_of_ble_eq_true rfl) (Nat.le_of_ble_eq_true rfl) ?_
  refine va_putF (D := (dC, dI)) (ci := 3) (v := .ref q_13) (ty := .object "PolarTypes$Row") (C := RX3) (T := TX3) (N := 6) hx hb hts (fun w h => List.mem_cons_of_mem _ (List.mem_append_right _ h)) tyX3 tyX3_ok nmX3 hown hK hP hD hS 0 rfl rfl 4 (by decide) (hts (.fieldLink RX3 27 "PolarTypes$Tree" "parts" "LPolarTypes$Row;") (List.mem_of_getElem? (i := 11) (by decide +kernel))) (fun _ h9 => h9) rfl hin rfl (by decide +kernel) rfl rfl (Nat.le_of_ble_eq_true rfl) dX3_init_56 (fun H locs hP hD hS => ?_)
  have hP : va_P (dC, dI) vwCl [(h0, .inr (3, [.ref q_1, .ref q_4, .ref q_7, .ref q_10, .ref q_13, .null])), (q_1, .inr (0, [.ref y_3, .int (nI 0)])), (y_3, .inl (cI, 4, .inl (fun _ => 0))), (q_4, .inr (0, [.ref y_6, .int (nI 0)])), (y_6, .inl (cI, 4, .inl (fun _ => 0))), (q_7, .inr (0, [.ref y_9, .int (nI 0)])), (y_9, .inl (cI, 4, .inl (fun _ => 0))), (q_10, .inr (0, [.ref y_12, .int (nI 0)])), (y_12, .inl (cI, 4, .inl (fun _ => 0))), (q_13, .inr (0, [.ref y_15, .int (nI 0)])), (y_15, .inl (cI, 4, .inl (fun _ => 0)))] H := hP
  have hD : va_D A [(h0, .inr (3, [.ref q_1, .ref q_4, .ref q_7, .ref q_10, .ref q_13, .null])), (q_1, .inr (0, [.ref y_3, .int (nI 0)])), (y_3, .inl (cI, 4, .inl (fun _ => 0))), (q_4, .inr (0, [.ref y_6, .int (nI 0)])), (y_6, .inl (cI, 4, .inl (fun _ => 0))), (q_7, .inr (0, [.ref y_9, .int (nI 0)])), (y_9, .inl (cI, 4, .inl (fun _ => 0))), (q_10, .inr (0, [.ref y_12, .int (nI 0)])), (y_12, .inl (cI, 4, .inl (fun _ => 0))), (q_13, .inr (0, [.ref y_15, .int (nI 0)])), (y_15, .inl (cI, 4, .inl (fun _ => 0)))] := hD
  refine lv_aload_n hx hb dX3_init_59 rfl (lv_at hl 0 rfl) ?_
  refine va_new (ci := 0) (fs := [.null, .int 0]) (C := RX0) (T := TX0) (N := 2) hx hb hts (fun w h => List.mem_cons_of_mem _ (List.mem_append_left _ (List.mem_append_right _ h))) tyX0 tyX0_ok hown (hts (.classLink RX3 9 RX0) (List.mem_of_getElem? (i := 4) (by decide +kernel))) (hts (.instantiable RX0 2) (List.mem_of_getElem? (i := 5) (by decide +kernel))) (hts (.initialized RX0) (List.mem_of_getElem? (i := 6) (by decide +kernel))) hK hP hD hS hA rfl (by decide +kernel) (Nat.le_of_ble_eq_true rfl) (Nat.le_of_ble_eq_true rfl) dX3_init_60 (fun q_16 H hP hD hS => ?_)
  have hP : va_P (dC, dI) vwCl [(h0, .inr (3, [.ref q_1, .ref q_4, .ref q_7, .ref q_10, .ref q_13, .null])), (q_1, .inr (0, [.ref y_3, .int (nI 0)])), (y_3, .inl (cI, 4, .inl (fun _ => 0))), (q_4, .inr (0, [.ref y_6, .int (nI 0)])), (y_6, .inl (cI, 4, .inl (fun _ => 0))), (q_7, .inr (0, [.ref y_9, .int (nI 0)])), (y_9, .inl (cI, 4, .inl (fun _ => 0))), (q_10, .inr (0, [.ref y_12, .int (nI 0)])), (y_12, .inl (cI, 4, .inl (fun _ => 0))), (q_13, .inr (0, [.ref y_15, .int (nI 0)])), (y_15, .inl (cI, 4, .inl (fun _ => 0))), (q_16, .inr (0, [.null, .int 0]))] H := hP
  have hD : va_D A [(h0, .inr (3, [.ref q_1, .ref q_4, .ref q_7, .ref q_10, .ref q_13, .null])), (q_1, .inr (0, [.ref y_3, .int (nI 0)])), (y_3, .inl (cI, 4, .inl (fun _ => 0))), (q_4, .inr (0, [.ref y_6, .int (nI 0)])), (y_6, .inl (cI, 4, .inl (fun _ => 0))), (q_7, .inr (0, [.ref y_9, .int (nI 0)])), (y_9, .inl (cI, 4, .inl (fun _ => 0))), (q_10, .inr (0, [.ref y_12, .int (nI 0)])), (y_12, .inl (cI, 4, .inl (fun _ => 0))), (q_13, .inr (0, [.ref y_15, .int (nI 0)])), (y_15, .inl (cI, 4, .inl (fun _ => 0))), (q_16, .inr (0, [.null, .int 0]))] := hD
  refine W.widen (k := 11) (n := 32) (Nat.le_of_ble_eq_true rfl) (Nat.le_of_ble_eq_true rfl) ?_
  refine lv_dup hx hb dX3_init_63 rfl ?_
  have hPc := hP.sub (ws' := [(q_16, .inr (0, [.null, .int 0]))]) [11] rfl
  have hDc := hD.sub (ws' := [(q_16, .inr (0, [.null, .int 0]))]) [11] (by decide) rfl
  have hFc := va_free (wc := [(q_16, .inr (0, [.null, .int 0]))]) hD hS hA [11] rfl
  refine va_callv (va_runI (As := []) (rest := [.ref q_16, .ref h0]) ⟨hx, hb, hml, hown, hts⟩ (c_Row_init l dC dI cI q_16 H.size) (cwI 0 hts gX3_init_X0_init rfl rfl rfl (hts (.initialized RX0) (List.mem_of_getElem? (i := 6) (by decide +kernel))) (hts (.methodLink RX3 11 yX0_init) (List.mem_of_getElem? (i := 13) (by decide +kernel))) (hts (.instanceMethod yX0_init) (List.mem_of_getElem? (i := 14) (by decide +kernel))) rfl (by decide +kernel) ⟨Nat.le_of_ble_eq_true rfl, Nat.le_of_ble_eq_true rfl⟩) ⟨fun a U g mk q => by obtain ⟨q0, q1, qP, qK, qD⟩ := q; exact ⟨q0, q1, qP, va_K.moved (u := U) (U := U.calling g mk a) (Vm.Alike.refl U.vm) qK, qD⟩, fun U hU hW => ⟨rfl, by rw [hU], by rw [hU]; exact hPc, va_K.moved hW.alike hK, hDc.weaken (fun _ _ _ _ => trivial)⟩⟩ rfl rfl hl.1 rfl (lv_room (Nat.le_of_ble_eq_true rfl)) dX3_init_64 ⟨Nat.le_of_ble_eq_true rfl, Nat.le_of_ble_eq_true rfl⟩) hS (fun q _ h => hFc q h) hFc (fun u t H1 locs ht hvm hw hB hz1 hk1 hS => ?_)
  obtain ⟨y_18, hP1, hK1, hD1⟩ := hB
  rw [ht] at hP1
  obtain ⟨hP, hD⟩ := va_join (wr := [(h0, .inr (3, [.ref q_1, .ref q_4, .ref q_7, .ref q_10, .ref q_13, .null])), (q_1, .inr (0, [.ref y_3, .int (nI 0)])), (y_3, .inl (cI, 4, .inl (fun _ => 0))), (q_4, .inr (0, [.ref y_6, .int (nI 0)])), (y_6, .inl (cI, 4, .inl (fun _ => 0))), (q_7, .inr (0, [.ref y_9, .int (nI 0)])), (y_9, .inl (cI, 4, .inl (fun _ => 0))), (q_10, .inr (0, [.ref y_12, .int (nI 0)])), (y_12, .inl (cI, 4, .inl (fun _ => 0))), (q_13, .inr (0, [.ref y_15, .int (nI 0)])), (y_15, .inl (cI, 4, .inl (fun _ => 0)))]) (w1 := [(q_16, .inr (0, [.ref y_18, .int (nI 0)])), (y_18, .inl (cI, 4, .inl (fun _ => 0)))]) hP hD [11] [0, 1, 2, 3, 4, 5, 6, 7, 8, 9, 10] rfl rfl (by decide) (by decide) hk1 hFc hP1 hD1
  generalize H1 = H at hP hS ⊢
  have hP : va_P (dC, dI) vwCl [(h0, .inr (3, [.ref q_1, .ref q_4, .ref q_7, .ref q_10, .ref q_13, .null])), (q_1, .inr (0, [.ref y_3, .int (nI 0)])), (y_3, .inl (cI, 4, .inl (fun _ => 0))), (q_4, .inr (0, [.ref y_6, .int (nI 0)])), (y_6, .inl (cI, 4, .inl (fun _ => 0))), (q_7, .inr (0, [.ref y_9, .int (nI 0)])), (y_9, .inl (cI, 4, .inl (fun _ => 0))), (q_10, .inr (0, [.ref y_12, .int (nI 0)])), (y_12, .inl (cI, 4, .inl (fun _ => 0))), (q_13, .inr (0, [.ref y_15, .int (nI 0)])), (y_15, .inl (cI, 4, .inl (fun _ => 0))), (q_16, .inr (0, [.ref y_18, .int (nI 0)])), (y_18, .inl (cI, 4, .inl (fun _ => 0)))] H := hP
  have hD : va_D A [(h0, .inr (3, [.ref q_1, .ref q_4, .ref q_7, .ref q_10, .ref q_13, .null])), (q_1, .inr (0, [.ref y_3, .int (nI 0)])), (y_3, .inl (cI, 4, .inl (fun _ => 0))), (q_4, .inr (0, [.ref y_6, .int (nI 0)])), (y_6, .inl (cI, 4, .inl (fun _ => 0))), (q_7, .inr (0, [.ref y_9, .int (nI 0)])), (y_9, .inl (cI, 4, .inl (fun _ => 0))), (q_10, .inr (0, [.ref y_12, .int (nI 0)])), (y_12, .inl (cI, 4, .inl (fun _ => 0))), (q_13, .inr (0, [.ref y_15, .int (nI 0)])), (y_15, .inl (cI, 4, .inl (fun _ => 0))), (q_16, .inr (0, [.ref y_18, .int (nI 0)])), (y_18, .inl (cI, 4, .inl (fun _ => 0)))] := hD
  refine W.widen (k := 12) (n := 36) (Nat.le_of_ble_eq_true rfl) (Nat.le_of_ble_eq_true rfl) ?_
  refine va_putF (D := (dC, dI)) (ci := 3) (v := .ref q_16) (ty := .object "PolarTypes$Row") (C := RX3) (T := TX3) (N := 6) hx hb hts (fun w h => List.mem_cons_of_mem _ (List.mem_append_right _ h)) tyX3 tyX3_ok nmX3 hown hK hP hD hS 0 rfl rfl 5 (by decide) (hts (.fieldLink RX3 30 "PolarTypes$Tree" "labels" "LPolarTypes$Row;") (List.mem_of_getElem? (i := 12) (by decide +kernel))) (fun _ h9 => h9) rfl hin rfl (by decide +kernel) rfl rfl (Nat.le_of_ble_eq_true rfl) dX3_init_67 (fun H locs hP hD hS => ?_)
  have hP : va_P (dC, dI) vwCl [(h0, .inr (3, [.ref q_1, .ref q_4, .ref q_7, .ref q_10, .ref q_13, .ref q_16])), (q_1, .inr (0, [.ref y_3, .int (nI 0)])), (y_3, .inl (cI, 4, .inl (fun _ => 0))), (q_4, .inr (0, [.ref y_6, .int (nI 0)])), (y_6, .inl (cI, 4, .inl (fun _ => 0))), (q_7, .inr (0, [.ref y_9, .int (nI 0)])), (y_9, .inl (cI, 4, .inl (fun _ => 0))), (q_10, .inr (0, [.ref y_12, .int (nI 0)])), (y_12, .inl (cI, 4, .inl (fun _ => 0))), (q_13, .inr (0, [.ref y_15, .int (nI 0)])), (y_15, .inl (cI, 4, .inl (fun _ => 0))), (q_16, .inr (0, [.ref y_18, .int (nI 0)])), (y_18, .inl (cI, 4, .inl (fun _ => 0)))] H := hP
  have hD : va_D A [(h0, .inr (3, [.ref q_1, .ref q_4, .ref q_7, .ref q_10, .ref q_13, .ref q_16])), (q_1, .inr (0, [.ref y_3, .int (nI 0)])), (y_3, .inl (cI, 4, .inl (fun _ => 0))), (q_4, .inr (0, [.ref y_6, .int (nI 0)])), (y_6, .inl (cI, 4, .inl (fun _ => 0))), (q_7, .inr (0, [.ref y_9, .int (nI 0)])), (y_9, .inl (cI, 4, .inl (fun _ => 0))), (q_10, .inr (0, [.ref y_12, .int (nI 0)])), (y_12, .inl (cI, 4, .inl (fun _ => 0))), (q_13, .inr (0, [.ref y_15, .int (nI 0)])), (y_15, .inl (cI, 4, .inl (fun _ => 0))), (q_16, .inr (0, [.ref y_18, .int (nI 0)])), (y_18, .inl (cI, 4, .inl (fun _ => 0)))] := hD
  have hP9 := hP.sub (ws' := [(h0, .inr (3, [.ref q_1, .ref q_4, .ref q_7, .ref q_10, .ref q_13, .ref q_16])), (q_1, .inr (0, [.ref y_3, .int (nI 0)])), (y_3, .inl (cI, 4, .inl (fun _ => 0))), (q_4, .inr (0, [.ref y_6, .int (nI 0)])), (y_6, .inl (cI, 4, .inl (fun _ => 0))), (q_7, .inr (0, [.ref y_9, .int (nI 0)])), (y_9, .inl (cI, 4, .inl (fun _ => 0))), (q_10, .inr (0, [.ref y_12, .int (nI 0)])), (y_12, .inl (cI, 4, .inl (fun _ => 0))), (q_13, .inr (0, [.ref y_15, .int (nI 0)])), (y_15, .inl (cI, 4, .inl (fun _ => 0))), (q_16, .inr (0, [.ref y_18, .int (nI 0)])), (y_18, .inl (cI, 4, .inl (fun _ => 0)))]) [0, 1, 2, 3, 4, 5, 6, 7, 8, 9, 10, 11, 12] rfl
  have hD9 := hD.sub (ws' := [(h0, .inr (3, [.ref q_1, .ref q_4, .ref q_7, .ref q_10, .ref q_13, .ref q_16])), (q_1, .inr (0, [.ref y_3, .int (nI 0)])), (y_3, .inl (cI, 4, .inl (fun _ => 0))), (q_4, .inr (0, [.ref y_6, .int (nI 0)])), (y_6, .inl (cI, 4, .inl (fun _ => 0))), (q_7, .inr (0, [.ref y_9, .int (nI 0)])), (y_9, .inl (cI, 4, .inl (fun _ => 0))), (q_10, .inr (0, [.ref y_12, .int (nI 0)])), (y_12, .inl (cI, 4, .inl (fun _ => 0))), (q_13, .inr (0, [.ref y_15, .int (nI 0)])), (y_15, .inl (cI, 4, .inl (fun _ => 0))), (q_16, .inr (0, [.ref y_18, .int (nI 0)])), (y_18, .inl (cI, 4, .inl (fun _ => 0)))]) [0, 1, 2, 3, 4, 5, 6, 7, 8, 9, 10, 11, 12] (by decide) rfl
  refine W.widen (k := 12) (n := 36) (Nat.le_of_ble_eq_true rfl) (Nat.le_of_ble_eq_true rfl) ?_
  exact W.vret hx hb hr (fun t ht hW => ⟨⟨(), rfl, trivial, (fun k => [q_1, q_4, q_7, q_10, q_13, q_16].getD k 0), (fun k => [y_3, y_6, y_9, y_12, y_15, y_18].getD k 0), by rw [ht]; exact hP9, va_K.moved hW.alike hK, hD9⟩, hS.F ht⟩) hS.2.2 dX3_init_70
end
section
set_option maxHeartbeats 4000000 in
set_option maxRecDepth 100000 in
/-- addType, at 0 types -/
theorem c_addType_0 (l : Launch) (dC : Nat → ClassId) (dI : Nat → Nat → Nat) (cI : ClassId) (h0 : Nat) (pd : Nat → Nat) (pe : Nat → Nat) (n0 : Nat) (n1 : Nat) (n2 : Nat) (n3 : Nat) (n11 : Nat) (f0 : Nat → Int32) (f1 : Nat → Int32) (f2 : Nat → Int32) (f3 : Nat → Int32) (f11 : Nat → Int32) (so : Int32) (lv : Int32) (fi : Int32) (se : Int32) (hn0 : 0 ≤ n0 ∧ n0 ≤ 100000) (hn1 : 0 ≤ n1 ∧ n1 ≤ 100000) (hn2 : 0 ≤ n2 ∧ n2 ≤ 100000) (hn3 : 0 ≤ n3 ∧ n3 ≤ 100000) (hn11 : 0 ≤ n11 ∧ n11 ≤ 100000) (sz : Nat) : Met l yX4_addType wsX4_addType ({ frames := 3, cells := 5, slots := 3020, locals := 103 }) (va_Pc [.ref h0, .int so, .int lv, .int fi, .int se] (fun U => U.heap.size = sz ∧ va_P (dC, dI) vwCl [(h0, .inr (4, [.ref (pd 0), .ref (pd 1), .ref (pd 2), .ref (pd 3), .ref (pd 4), .ref (pd 5), .ref (pd 6), .ref (pd 7), .ref (pd 8), .ref (pd 9), .ref (pd 10), .ref (pd 11), .ref (pd 12), .ref (pd 13)])), (pd 0, .inr (0, [.ref (pe 0), .int (nI 0)])), (pe 0, .inl (cI, n0, .inl f0)), (pd 1, .inr (0, [.ref (pe 1), .int (nI 0)])), (pe 1, .inl (cI, n1, .inl f1)), (pd 2, .inr (0, [.ref (pe 2), .int (nI 0)])), (pe 2, .inl (cI, n2, .inl f2)), (pd 3, .inr (0, [.ref (pe 3), .int (nI 0)])), (pe 3, .inl (cI, n3, .inl f3)), (pd 11, .inr (0, [.ref (pe 11), .int (nI 0)])), (pe 11, .inl (cI, n11, .inl f11))] U.heap ∧ va_K (dC, dI) vwCl [(cI, .int)] U ∧ va_D (fun _ => True) [(h0, .inr (4, [.ref (pd 0), .ref (pd 1), .ref (pd 2), .ref (pd 3), .ref (pd 4), .ref (pd 5), .ref (pd 6), .ref (pd 7), .ref (pd 8), .ref (pd 9), .ref (pd 10), .ref (pd 11), .ref (pd 12), .ref (pd 13)])), (pd 0, .inr (0, [.ref (pe 0), .int (nI 0)])), (pe 0, .inl (cI, n0, .inl f0)), (pd 1, .inr (0, [.ref (pe 1), .int (nI 0)])), (pe 1, .inl (cI, n1, .inl f1)), (pd 2, .inr (0, [.ref (pe 2), .int (nI 0)])), (pe 2, .inl (cI, n2, .inl f2)), (pd 3, .inr (0, [.ref (pe 3), .int (nI 0)])), (pe 3, .inl (cI, n3, .inl f3)), (pd 11, .inr (0, [.ref (pe 11), .int (nI 0)])), (pe 11, .inl (cI, n11, .inl f11))])) (va_Qi (fun (r : Int32) (_ : Unit) => r = 0) (fun (_ : Unit) (t : State) => ∃ (q0 : Nat), ∃ (q1 : Nat), ∃ (q2 : Nat), ∃ (q3 : Nat), ∃ (q11 : Nat), ∃ (m0 : Nat), ∃ (m1 : Nat), ∃ (m2 : Nat), ∃ (m3 : Nat), ∃ (m11 : Nat), ∃ (g0 : Nat → Int32), ∃ (g1 : Nat → Int32), ∃ (g2 : Nat → Int32), ∃ (g3 : Nat → Int32), ∃ (g11 : Nat → Int32), (1 ≤ m0 ∧ m0 ≤ 100000) ∧ (1 ≤ m1 ∧ m1 ≤ 100000) ∧ (1 ≤ m2 ∧ m2 ≤ 100000) ∧ (1 ≤ m3 ∧ m3 ≤ 100000) ∧ (1 ≤ m11 ∧ m11 ≤ 100000) ∧ va_P (dC, dI) vwCl [(h0, .inr (4, [.ref (pd 0), .ref (pd 1), .ref (pd 2), .ref (pd 3), .ref (pd 4), .ref (pd 5), .ref (pd 6), .ref (pd 7), .ref (pd 8), .ref (pd 9), .ref (pd 10), .ref (pd 11), .ref (pd 12), .ref (pd 13)])), (pd 0, .inr (0, [.ref q0, .int (nI 1)])), (q0, .inl (cI, m0, .inl g0)), (pd 1, .inr (0, [.ref q1, .int (nI 1)])), (q1, .inl (cI, m1, .inl g1)), (pd 2, .inr (0, [.ref q2, .int (nI 1)])), (q2, .inl (cI, m2, .inl g2)), (pd 3, .inr (0, [.ref q3, .int (nI 1)])), (q3, .inl (cI, m3, .inl g3)), (pd 11, .inr (0, [.ref q11, .int (nI 1)])), (q11, .inl (cI, m11, .inl g11))] t.heap ∧ va_K (dC, dI) vwCl [(cI, .int)] t ∧ va_D (va_A [(h0, .inr (4, [.ref (pd 0), .ref (pd 1), .ref (pd 2), .ref (pd 3), .ref (pd 4), .ref (pd 5), .ref (pd 6), .ref (pd 7), .ref (pd 8), .ref (pd 9), .ref (pd 10), .ref (pd 11), .ref (pd 12), .ref (pd 13)])), (pd 0, .inr (0, [.ref (pe 0), .int (nI 0)])), (pe 0, .inl (cI, n0, .inl f0)), (pd 1, .inr (0, [.ref (pe 1), .int (nI 0)])), (pe 1, .inl (cI, n1, .inl f1)), (pd 2, .inr (0, [.ref (pe 2), .int (nI 0)])), (pe 2, .inl (cI, n2, .inl f2)), (pd 3, .inr (0, [.ref (pe 3), .int (nI 0)])), (pe 3, .inl (cI, n3, .inl f3)), (pd 11, .inr (0, [.ref (pe 11), .int (nI 0)])), (pe 11, .inl (cI, n11, .inl f11))] sz) [(h0, .inr (4, [.ref (pd 0), .ref (pd 1), .ref (pd 2), .ref (pd 3), .ref (pd 4), .ref (pd 5), .ref (pd 6), .ref (pd 7), .ref (pd 8), .ref (pd 9), .ref (pd 10), .ref (pd 11), .ref (pd 12), .ref (pd 13)])), (pd 0, .inr (0, [.ref q0, .int (nI 1)])), (q0, .inl (cI, m0, .inl g0)), (pd 1, .inr (0, [.ref q1, .int (nI 1)])), (q1, .inl (cI, m1, .inl g1)), (pd 2, .inr (0, [.ref q2, .int (nI 1)])), (q2, .inl (cI, m2, .inl g2)), (pd 3, .inr (0, [.ref q3, .int (nI 1)])), (q3, .inl (cI, m3, .inl g3)), (pd 11, .inr (0, [.ref q11, .int (nI 1)])), (q11, .inl (cI, m11, .inl g11))]) (va_A [(h0, .inr (4, [.ref (pd 0), .ref (pd 1), .ref (pd 2), .ref (pd 3), .ref (pd 4), .ref (pd 5), .ref (pd 6), .ref (pd 7), .ref (pd 8), .ref (pd 9), .ref (pd 10), .ref (pd 11), .ref (pd 12), .ref (pd 13)])), (pd 0, .inr (0, [.ref (pe 0), .int (nI 0)])), (pe 0, .inl (cI, n0, .inl f0)), (pd 1, .inr (0, [.ref (pe 1), .int (nI 0)])), (pe 1, .inl (cI, n1, .inl f1)), (pd 2, .inr (0, [.ref (pe 2), .int (nI 0)])), (pe 2, .inl (cI, n2, .inl f2)), (pd 3, .inr (0, [.ref (pe 3), .int (nI 0)])), (pe 3, .inl (cI, n3, .inl f3)), (pd 11, .inr (0, [.ref (pe 11), .int (nI 0)])), (pe 11, .inl (cI, n11, .inl f11))] sz)) 5 3020 (va_A [(h0, .inr (4, [.ref (pd 0), .ref (pd 1), .ref (pd 2), .ref (pd 3), .ref (pd 4), .ref (pd 5), .ref (pd 6), .ref (pd 7), .ref (pd 8), .ref (pd 9), .ref (pd 10), .ref (pd 11), .ref (pd 12), .ref (pd 13)])), (pd 0, .inr (0, [.ref (pe 0), .int (nI 0)])), (pe 0, .inl (cI, n0, .inl f0)), (pd 1, .inr (0, [.ref (pe 1), .int (nI 0)])), (pe 1, .inl (cI, n1, .inl f1)), (pd 2, .inr (0, [.ref (pe 2), .int (nI 0)])), (pe 2, .inl (cI, n2, .inl f2)), (pd 3, .inr (0, [.ref (pe 3), .int (nI 0)])), (pe 3, .inl (cI, n3, .inl f3)), (pd 11, .inr (0, [.ref (pe 11), .int (nI 0)])), (pe 11, .inl (cI, n11, .inl f11))] sz) := by
  refine Met.ofW (cc := cX4_addType) (maxL := 6) (ret := (some .int)) (by decide) rfl ?_
  intro p e s m args below meth c s₁ B hml hv
  obtain ⟨rfl, hsz, hP, hK, hD0⟩ := hv
  have hx := B.exec
  have hb := B.bytes
  have hr := B.returns
  have hts := atoms_spec (ws := wsX4_addType) B.pre
  have hown : s.vm.findClass RX4 = some m.cls := findClass_of_methodNamed B.named
  have hlocks := B.notSynchronized
  subst hsz
  have hD := hD0.self (sz := s.heap.size)
  generalize hAe : va_A [(h0, .inr (4, [.ref (pd 0), .ref (pd 1), .ref (pd 2), .ref (pd 3), .ref (pd 4), .ref (pd 5), .ref (pd 6), .ref (pd 7), .ref (pd 8), .ref (pd 9), .ref (pd 10), .ref (pd 11), .ref (pd 12), .ref (pd 13)])), (pd 0, .inr (0, [.ref (pe 0), .int (nI 0)])), (pe 0, .inl (cI, n0, .inl f0)), (pd 1, .inr (0, [.ref (pe 1), .int (nI 0)])), (pe 1, .inl (cI, n1, .inl f1)), (pd 2, .inr (0, [.ref (pe 2), .int (nI 0)])), (pe 2, .inl (cI, n2, .inl f2)), (pd 3, .inr (0, [.ref (pe 3), .int (nI 0)])), (pe 3, .inl (cI, n3, .inl f3)), (pd 11, .inr (0, [.ref (pe 11), .int (nI 0)])), (pe 11, .inl (cI, n11, .inl f11))] s.heap.size = A at hD ⊢
  have hA : ∀ q : Nat, s.heap.size ≤ q → A q := fun q h => by rw [← hAe]; exact Or.inr h
  have hS : va_S A s.heap s.heap [] := va_S.rf
  have hP : va_P (dC, dI) vwCl [(h0, .inr (4, [.ref (pd 0), .ref (pd 1), .ref (pd 2), .ref (pd 3), .ref (pd 4), .ref (pd 5), .ref (pd 6), .ref (pd 7), .ref (pd 8), .ref (pd 9), .ref (pd 10), .ref (pd 11), .ref (pd 12), .ref (pd 13)])), (pd 0, .inr (0, [.ref (pe 0), .int (nI 0)])), (pe 0, .inl (cI, n0, .inl f0)), (pd 1, .inr (0, [.ref (pe 1), .int (nI 0)])), (pe 1, .inl (cI, n1, .inl f1)), (pd 2, .inr (0, [.ref (pe 2), .int (nI 0)])), (pe 2, .inl (cI, n2, .inl f2)), (pd 3, .inr (0, [.ref (pe 3), .int (nI 0)])), (pe 3, .inl (cI, n3, .inl f3)), (pd 11, .inr (0, [.ref (pe 11), .int (nI 0)])), (pe 11, .inl (cI, n11, .inl f11))] s.heap := hP
  have hl := lv_entry ([.ref h0, .int so, .int lv, .int fi, .int se]) (n := 6) (Nat.le_of_ble_eq_true rfl)
  rw [lg_entry_eq]
  generalize (lg_sl ([.ref h0, .int so, .int lv, .int fi, .int se]) ++ List.replicate (6 - (lg_sl ([.ref h0, .int so, .int lv, .int fi, .int se])).length) Slot.unset).toArray = ls at hl ⊢
  have hl : lv_has ls 6 [(0, .ref h0), (1, .int so), (2, .int lv), (3, .int fi), (4, .int se)] := hl
  obtain ⟨H, hHe⟩ : ∃ H : Heap, H = s.heap := ⟨_, rfl⟩
  rw [← hHe] at hP ⊢
  have hS : va_S A s.heap H [] := by rw [hHe]; exact va_S.rf
  refine lv_aload_n hx hb dX4_addType_0 rfl (lv_at hl 0 rfl) ?_
  refine va_get (D := (dC, dI)) (ci := 4) (v := .ref (pd 0)) (C := RX4) (T := TX4) (N := 14) hx hb hts (fun w h => List.mem_cons_of_mem _ (List.mem_append_left _ (List.mem_append_right _ h))) hown hK hP 0 rfl rfl 0 (by decide) (hts (.fieldLink RX4 12 "PolarTypes$Types" "sorts" "LPolarTypes$Row;") (List.mem_of_getElem? (i := 1) (by decide +kernel))) (fun _ h9 => h9) rfl dX4_addType_1 ?_
  refine va_get (D := (dC, dI)) (ci := 0) (v := .int (nI 0)) (C := RX0) (T := TX0) (N := 2) hx hb hts (fun w h => List.mem_cons_of_mem _ (List.mem_append_right _ h)) hown hK hP 1 rfl rfl 1 (by decide) (hts (.fieldLink RX4 69 "PolarTypes$Row" "size" "I") (List.mem_of_getElem? (i := 2) (by decide +kernel))) (fun _ h9 => h9) rfl dX4_addType_4 ?_
  refine lv_istore (lv' := [(5, .int (nI 0)), (0, .ref h0), (1, .int so), (2, .int lv), (3, .int fi), (4, .int se)]) hx hb dX4_addType_7 hl (by decide) rfl (fun ls hl => ?_)
  refine lv_iload hx hb dX4_addType_9 (lv_at hl 0 rfl) ?_
  refine lv_sipush (v := 602) hx hb dX4_addType_11 (by decide) ?_
  refine lv_icmp_lt (tgt := 20) hx hb dX4_addType_14 (by decide) (fun c_1 => ?_) (fun c_1 => absurd (by decide) c_1)
  refine lv_aload_n hx hb dX4_addType_20 rfl (lv_at hl 1 rfl) ?_
  refine va_get (D := (dC, dI)) (ci := 4) (v := .ref (pd 0)) (C := RX4) (T := TX4) (N := 14) hx hb hts (fun w h => List.mem_cons_of_mem _ (List.mem_append_left _ (List.mem_append_right _ h))) hown hK hP 0 rfl rfl 0 (by decide) (hts (.fieldLink RX4 12 "PolarTypes$Types" "sorts" "LPolarTypes$Row;") (List.mem_of_getElem? (i := 1) (by decide +kernel))) (fun _ h9 => h9) rfl dX4_addType_21 ?_
  refine lv_iload_n hx hb dX4_addType_24 rfl (lv_at hl 2 rfl) ?_
  have hPc := hP.sub (ws' := [(pd 0, .inr (0, [.ref (pe 0), .int (nI 0)])), (pe 0, .inl (cI, n0, .inl f0))]) [1, 2] rfl
  have hDc := hD.sub (ws' := [(pd 0, .inr (0, [.ref (pe 0), .int (nI 0)])), (pe 0, .inl (cI, n0, .inl f0))]) [1, 2] (by decide) rfl
  have hFc := va_free (wc := [(pd 0, .inr (0, [.ref (pe 0), .int (nI 0)])), (pe 0, .inl (cI, n0, .inl f0))]) hD hS hA [1, 2] rfl
  refine va_callv (va_runV (As := [.int so]) (rest := []) ⟨hx, hb, hml, hown, hts⟩ (c_Row_add l dC dI cI (pd 0) (pe 0) 0 n0 f0 so hn0.1 ((by decide)) hn0.2 H.size) (cwV 1 hts gX4_addType_X0_add rfl rfl rfl (by decide +kernel) ⟨Nat.le_of_ble_eq_true rfl, Nat.le_of_ble_eq_true rfl⟩) ⟨fun a U g mk q => by obtain ⟨q0, q1, qP, qK, qD⟩ := q; exact ⟨q0, q1, qP, va_K.moved (u := U) (U := U.calling g mk a) (Vm.Alike.refl U.vm) qK, qD⟩, va_recv hK hPc (ci := 0) (q0 := 0) rfl rfl, fun U hU hW => ⟨rfl, by rw [hU], by rw [hU]; exact hPc, va_K.moved hW.alike hK, hDc.weaken (fun _ _ _ _ => trivial)⟩⟩ rfl rfl hl.1 rfl (lv_room (Nat.le_of_ble_eq_true rfl)) dX4_addType_25 ⟨Nat.le_of_ble_eq_true rfl, Nat.le_of_ble_eq_true rfl⟩) hS (fun q _ h => hFc q h) hFc (fun u t H1 locs ht hvm hw hB hz1 hk1 hS => ?_)
  obtain ⟨y_3, y_4, y_5, p_6, hP1, hK1, hD1⟩ := hB
  rw [ht] at hP1
  obtain ⟨hP, hD⟩ := va_join (wr := [(h0, .inr (4, [.ref (pd 0), .ref (pd 1), .ref (pd 2), .ref (pd 3), .ref (pd 4), .ref (pd 5), .ref (pd 6), .ref (pd 7), .ref (pd 8), .ref (pd 9), .ref (pd 10), .ref (pd 11), .ref (pd 12), .ref (pd 13)])), (pd 1, .inr (0, [.ref (pe 1), .int (nI 0)])), (pe 1, .inl (cI, n1, .inl f1)), (pd 2, .inr (0, [.ref (pe 2), .int (nI 0)])), (pe 2, .inl (cI, n2, .inl f2)), (pd 3, .inr (0, [.ref (pe 3), .int (nI 0)])), (pe 3, .inl (cI, n3, .inl f3)), (pd 11, .inr (0, [.ref (pe 11), .int (nI 0)])), (pe 11, .inl (cI, n11, .inl f11))]) (w1 := [(pd 0, .inr (0, [.ref y_3, .int (nI 1)])), (y_3, .inl (cI, y_4, .inl y_5))]) hP hD [1, 2] [0, 3, 4, 5, 6, 7, 8, 9, 10] rfl rfl (by decide) (by decide) hk1 hFc hP1 hD1
  generalize H1 = H at hP hS ⊢
  have hP : va_P (dC, dI) vwCl [(h0, .inr (4, [.ref (pd 0), .ref (pd 1), .ref (pd 2), .ref (pd 3), .ref (pd 4), .ref (pd 5), .ref (pd 6), .ref (pd 7), .ref (pd 8), .ref (pd 9), .ref (pd 10), .ref (pd 11), .ref (pd 12), .ref (pd 13)])), (pd 1, .inr (0, [.ref (pe 1), .int (nI 0)])), (pe 1, .inl (cI, n1, .inl f1)), (pd 2, .inr (0, [.ref (pe 2), .int (nI 0)])), (pe 2, .inl (cI, n2, .inl f2)), (pd 3, .inr (0, [.ref (pe 3), .int (nI 0)])), (pe 3, .inl (cI, n3, .inl f3)), (pd 11, .inr (0, [.ref (pe 11), .int (nI 0)])), (pe 11, .inl (cI, n11, .inl f11)), (pd 0, .inr (0, [.ref y_3, .int (nI 1)])), (y_3, .inl (cI, y_4, .inl y_5))] H := hP
  have hD : va_D A [(h0, .inr (4, [.ref (pd 0), .ref (pd 1), .ref (pd 2), .ref (pd 3), .ref (pd 4), .ref (pd 5), .ref (pd 6), .ref (pd 7), .ref (pd 8), .ref (pd 9), .ref (pd 10), .ref (pd 11), .ref (pd 12), .ref (pd 13)])), (pd 1, .inr (0, [.ref (pe 1), .int (nI 0)])), (pe 1, .inl (cI, n1, .inl f1)), (pd 2, .inr (0, [.ref (pe 2), .int (nI 0)])), (pe 2, .inl (cI, n2, .inl f2)), (pd 3, .inr (0, [.ref (pe 3), .int (nI 0)])), (pe 3, .inl (cI, n3, .inl f3)), (pd 11, .inr (0, [.ref (pe 11), .int (nI 0)])), (pe 11, .inl (cI, n11, .inl f11)), (pd 0, .inr (0, [.ref y_3, .int (nI 1)])), (y_3, .inl (cI, y_4, .inl y_5))] := hD
  refine W.widen (k := 1) (n := 604) (Nat.le_of_ble_eq_true rfl) (Nat.le_of_ble_eq_true rfl) ?_
  refine lv_aload_n hx hb dX4_addType_28 rfl (lv_at hl 1 rfl) ?_
  refine va_get (D := (dC, dI)) (ci := 4) (v := .ref (pd 1)) (C := RX4) (T := TX4) (N := 14) hx hb hts (fun w h => List.mem_cons_of_mem _ (List.mem_append_left _ (List.mem_append_right _ h))) hown hK hP 0 rfl rfl 1 (by decide) (hts (.fieldLink RX4 18 "PolarTypes$Types" "levels" "LPolarTypes$Row;") (List.mem_of_getElem? (i := 3) (by decide +kernel))) (fun _ h9 => h9) rfl dX4_addType_29 ?_
  refine lv_iload_n hx hb dX4_addType_32 rfl (lv_at hl 3 rfl) ?_
  have hPc := hP.sub (ws' := [(pd 1, .inr (0, [.ref (pe 1), .int (nI 0)])), (pe 1, .inl (cI, n1, .inl f1))]) [1, 2] rfl
  have hDc := hD.sub (ws' := [(pd 1, .inr (0, [.ref (pe 1), .int (nI 0)])), (pe 1, .inl (cI, n1, .inl f1))]) [1, 2] (by decide) rfl
  have hFc := va_free (wc := [(pd 1, .inr (0, [.ref (pe 1), .int (nI 0)])), (pe 1, .inl (cI, n1, .inl f1))]) hD hS hA [1, 2] rfl
  refine va_callv (va_runV (As := [.int lv]) (rest := []) ⟨hx, hb, hml, hown, hts⟩ (c_Row_add l dC dI cI (pd 1) (pe 1) 0 n1 f1 lv hn1.1 ((by decide)) hn1.2 H.size) (cwV 1 hts gX4_addType_X0_add rfl rfl rfl (by decide +kernel) ⟨Nat.le_of_ble_eq_true rfl, Nat.le_of_ble_eq_true rfl⟩) ⟨fun a U g mk q => by obtain ⟨q0, q1, qP, qK, qD⟩ := q; exact ⟨q0, q1, qP, va_K.moved (u := U) (U := U.calling g mk a) (Vm.Alike.refl U.vm) qK, qD⟩, va_recv hK hPc (ci := 0) (q0 := 0) rfl rfl, fun U hU hW => ⟨rfl, by rw [hU], by rw [hU]; exact hPc, va_K.moved hW.alike hK, hDc.weaken (fun _ _ _ _ => trivial)⟩⟩ rfl rfl hl.1 rfl (lv_room (Nat.le_of_ble_eq_true rfl)) dX4_addType_33 ⟨Nat.le_of_ble_eq_true rfl, Nat.le_of_ble_eq_true rfl⟩) hS (fun q _ h => hFc q h) hFc (fun u t H1 locs ht hvm hw hB hz1 hk1 hS => ?_)
  obtain ⟨y_8, y_9, y_10, p_11, hP1, hK1, hD1⟩ := hB
  rw [ht] at hP1
  obtain ⟨hP, hD⟩ := va_join (wr := [(h0, .inr (4, [.ref (pd 0), .ref (pd 1), .ref (pd 2), .ref (pd 3), .ref (pd 4), .ref (pd 5), .ref (pd 6), .ref (pd 7), .ref (pd 8), .ref (pd 9), .ref (pd 10), .ref (pd 11), .ref (pd 12), .ref (pd 13)])), (pd 2, .inr (0, [.ref (pe 2), .int (nI 0)])), (pe 2, .inl (cI, n2, .inl f2)), (pd 3, .inr (0, [.ref (pe 3), .int (nI 0)])), (pe 3, .inl (cI, n3, .inl f3)), (pd 11, .inr (0, [.ref (pe 11), .int (nI 0)])), (pe 11, .inl (cI, n11, .inl f11)), (pd 0, .inr (0, [.ref y_3, .int (nI 1)])), (y_3, .inl (cI, y_4, .inl y_5))]) (w1 := [(pd 1, .inr (0, [.ref y_8, .int (nI 1)])), (y_8, .inl (cI, y_9, .inl y_10))]) hP hD [1, 2] [0, 3, 4, 5, 6, 7, 8, 9, 10] rfl rfl (by decide) (by decide) hk1 hFc hP1 hD1
  generalize H1 = H at hP hS ⊢
  have hP : va_P (dC, dI) vwCl [(h0, .inr (4, [.ref (pd 0), .ref (pd 1), .ref (pd 2), .ref (pd 3), .ref (pd 4), .ref (pd 5), .ref (pd 6), .ref (pd 7), .ref (pd 8), .ref (pd 9), .ref (pd 10), .ref (pd 11), .ref (pd 12), .ref (pd 13)])), (pd 2, .inr (0, [.ref (pe 2), .int (nI 0)])), (pe 2, .inl (cI, n2, .inl f2)), (pd 3, .inr (0, [.ref (pe 3), .int (nI 0)])), (pe 3, .inl (cI, n3, .inl f3)), (pd 11, .inr (0, [.ref (pe 11), .int (nI 0)])), (pe 11, .inl (cI, n11, .inl f11)), (pd 0, .inr (0, [.ref y_3, .int (nI 1)])), (y_3, .inl (cI, y_4, .inl y_5)), (pd 1, .inr (0, [.ref y_8, .int (nI 1)])), (y_8, .inl (cI, y_9, .inl y_10))] H := hP
  have hD : va_D A [(h0, .inr (4, [.ref (pd 0), .ref (pd 1), .ref (pd 2), .ref (pd 3), .ref (pd 4), .ref (pd 5), .ref (pd 6), .ref (pd 7), .ref (pd 8), .ref (pd 9), .ref (pd 10), .ref (pd 11), .ref (pd 12), .ref (pd 13)])), (pd 2, .inr (0, [.ref (pe 2), .int (nI 0)])), (pe 2, .inl (cI, n2, .inl f2)), (pd 3, .inr (0, [.ref (pe 3), .int (nI 0)])), (pe 3, .inl (cI, n3, .inl f3)), (pd 11, .inr (0, [.ref (pe 11), .int (nI 0)])), (pe 11, .inl (cI, n11, .inl f11)), (pd 0, .inr (0, [.ref y_3, .int (nI 1)])), (y_3, .inl (cI, y_4, .inl y_5)), (pd 1, .inr (0, [.ref y_8, .int (nI 1)])), (y_8, .inl (cI, y_9, .inl y_10))] := hD
  refine W.widen (k := 2) (n := 1208) (Nat.le_of_ble_eq_true rfl) (Nat.le_of_ble_eq_true rfl) ?_
  refine lv_aload_n hx hb dX4_addType_36 rfl (lv_at hl 1 rfl) ?_
  refine va_get (D := (dC, dI)) (ci := 4) (v := .ref (pd 2)) (C := RX4) (T := TX4) (N := 14) hx hb hts (fun w h => List.mem_cons_of_mem _ (List.mem_append_left _ (List.mem_append_right _ h))) hown hK hP 0 rfl rfl 2 (by decide) (hts (.fieldLink RX4 21 "PolarTypes$Types" "firsts" "LPolarTypes$Row;") (List.mem_of_getElem? (i := 4) (by decide +kernel))) (fun _ h9 => h9) rfl dX4_addType_37 ?_
  refine lv_iload_n hx hb dX4_addType_40 rfl (lv_at hl 4 rfl) ?_
  have hPc := hP.sub (ws' := [(pd 2, .inr (0, [.ref (pe 2), .int (nI 0)])), (pe 2, .inl (cI, n2, .inl f2))]) [1, 2] rfl
  have hDc := hD.sub (ws' := [(pd 2, .inr (0, [.ref (pe 2), .int (nI 0)])), (pe 2, .inl (cI, n2, .inl f2))]) [1, 2] (by decide) rfl
  have hFc := va_free (wc := [(pd 2, .inr (0, [.ref (pe 2), .int (nI 0)])), (pe 2, .inl (cI, n2, .inl f2))]) hD hS hA [1, 2] rfl
  refine va_callv (va_runV (As := [.int fi]) (rest := []) ⟨hx, hb, hml, hown, hts⟩ (c_Row_add l dC dI cI (pd 2) (pe 2) 0 n2 f2 fi hn2.1 ((by decide)) hn2.2 H.size) (cwV 1 hts gX4_addType_X0_add rfl rfl rfl (by decide +kernel) ⟨Nat.le_of_ble_eq_true rfl, Nat.le_of_ble_eq_true rfl⟩) ⟨fun a U g mk q => by obtain ⟨q0, q1, qP, qK, qD⟩ := q; exact ⟨q0, q1, qP, va_K.moved (u := U) (U := U.calling g mk a) (Vm.Alike.refl U.vm) qK, qD⟩, va_recv hK hPc (ci := 0) (q0 := 0) rfl rfl, fun U hU hW => ⟨rfl, by rw [hU], by rw [hU]; exact hPc, va_K.moved hW.alike hK, hDc.weaken (fun _ _ _ _ => trivial)⟩⟩ rfl rfl hl.1 rfl (lv_room (Nat.le_of_ble_eq_true rfl)) dX4_addType_41 ⟨Nat.le_of_ble_eq_true rfl, Nat.le_of_ble_eq_true rfl⟩) hS (fun q _ h => hFc q h) hFc (fun u t H1 locs ht hvm hw hB hz1 hk1 hS => ?_)
  obtain ⟨y_13, y_14, y_15, p_16, hP1, hK1, hD1⟩ := hB
  rw [ht] at hP1
  obtain ⟨hP, hD⟩ := va_join (wr := [(h0, .inr (4, [.ref (pd 0), .ref (pd 1), .ref (pd 2), .ref (pd 3), .ref (pd 4), .ref (pd 5), .ref (pd 6), .ref (pd 7), .ref (pd 8), .ref (pd 9), .ref (pd 10), .ref (pd 11), .ref (pd 12), .ref (pd 13)])), (pd 3, .inr (0, [.ref (pe 3), .int (nI 0)])), (pe 3, .inl (cI, n3, .inl f3)), (pd 11, .inr (0, [.ref (pe 11), .int (nI 0)])), (pe 11, .inl (cI, n11, .inl f11)), (pd 0, .inr (0, [.ref y_3, .int (nI 1)])), (y_3, .inl (cI, y_4, .inl y_5)), (pd 1, .inr (0, [.ref y_8, .int (nI 1)])), (y_8, .inl (cI, y_9, .inl y_10))]) (w1 := [(pd 2, .inr (0, [.ref y_13, .int (nI 1)])), (y_13, .inl (cI, y_14, .inl y_15))]) hP hD [1, 2] [0, 3, 4, 5, 6, 7, 8, 9, 10] rfl rfl (by decide) (by decide) hk1 hFc hP1 hD1
  generalize H1 = H at hP hS ⊢
  have hP : va_P (dC, dI) vwCl [(h0, .inr (4, [.ref (pd 0), .ref (pd 1), .ref (pd 2), .ref (pd 3), .ref (pd 4), .ref (pd 5), .ref (pd 6), .ref (pd 7), .ref (pd 8), .ref (pd 9), .ref (pd 10), .ref (pd 11), .ref (pd 12), .ref (pd 13)])), (pd 3, .inr (0, [.ref (pe 3), .int (nI 0)])), (pe 3, .inl (cI, n3, .inl f3)), (pd 11, .inr (0, [.ref (pe 11), .int (nI 0)])), (pe 11, .inl (cI, n11, .inl f11)), (pd 0, .inr (0, [.ref y_3, .int (nI 1)])), (y_3, .inl (cI, y_4, .inl y_5)), (pd 1, .inr (0, [.ref y_8, .int (nI 1)])), (y_8, .inl (cI, y_9, .inl y_10)), (pd 2, .inr (0, [.ref y_13, .int (nI 1)])), (y_13, .inl (cI, y_14, .inl y_15))] H := hP
  have hD : va_D A [(h0, .inr (4, [.ref (pd 0), .ref (pd 1), .ref (pd 2), .ref (pd 3), .ref (pd 4), .ref (pd 5), .ref (pd 6), .ref (pd 7), .ref (pd 8), .ref (pd 9), .ref (pd 10), .ref (pd 11), .ref (pd 12), .ref (pd 13)])), (pd 3, .inr (0, [.ref (pe 3), .int (nI 0)])), (pe 3, .inl (cI, n3, .inl f3)), (pd 11, .inr (0, [.ref (pe 11), .int (nI 0)])), (pe 11, .inl (cI, n11, .inl f11)), (pd 0, .inr (0, [.ref y_3, .int (nI 1)])), (y_3, .inl (cI, y_4, .inl y_5)), (pd 1, .inr (0, [.ref y_8, .int (nI 1)])), (y_8, .inl (cI, y_9, .inl y_10)), (pd 2, .inr (0, [.ref y_13, .int (nI 1)])), (y_13, .inl (cI, y_14, .inl y_15))] := hD
  refine W.widen (k := 3) (n := 1812) (Nat.le_of_ble_eq_true rfl) (Nat.le_of_ble_eq_true rfl) ?_
  refine lv_aload_n hx hb dX4_addType_44 rfl (lv_at hl 1 rfl) ?_
  refine va_get (D := (dC, dI)) (ci := 4) (v := .ref (pd 3)) (C := RX4) (T := TX4) (N := 14) hx hb hts (fun w h => List.mem_cons_of_mem _ (List.mem_append_left _ (List.mem_append_right _ h))) hown hK hP 0 rfl rfl 3 (by decide) (hts (.fieldLink RX4 24 "PolarTypes$Types" "seconds" "LPolarTypes$Row;") (List.mem_of_getElem? (i := 5) (by decide +kernel))) (fun _ h9 => h9) rfl dX4_addType_45 ?_
  refine lv_iload hx hb dX4_addType_48 (lv_at hl 5 rfl) ?_
  have hPc := hP.sub (ws' := [(pd 3, .inr (0, [.ref (pe 3), .int (nI 0)])), (pe 3, .inl (cI, n3, .inl f3))]) [1, 2] rfl
  have hDc := hD.sub (ws' := [(pd 3, .inr (0, [.ref (pe 3), .int (nI 0)])), (pe 3, .inl (cI, n3, .inl f3))]) [1, 2] (by decide) rfl
  have hFc := va_free (wc := [(pd 3, .inr (0, [.ref (pe 3), .int (nI 0)])), (pe 3, .inl (cI, n3, .inl f3))]) hD hS hA [1, 2] rfl
  refine va_callv (va_runV (As := [.int se]) (rest := []) ⟨hx, hb, hml, hown, hts⟩ (c_Row_add l dC dI cI (pd 3) (pe 3) 0 n3 f3 se hn3.1 ((by decide)) hn3.2 H.size) (cwV 1 hts gX4_addType_X0_add rfl rfl rfl (by decide +kernel) ⟨Nat.le_of_ble_eq_true rfl, Nat.le_of_ble_eq_true rfl⟩) ⟨fun a U g mk q => by obtain ⟨q0, q1, qP, qK, qD⟩ := q; exact ⟨q0, q1, qP, va_K.moved (u := U) (U := U.calling g mk a) (Vm.Alike.refl U.vm) qK, qD⟩, va_recv hK hPc (ci := 0) (q0 := 0) rfl rfl, fun U hU hW => ⟨rfl, by rw [hU], by rw [hU]; exact hPc, va_K.moved hW.alike hK, hDc.weaken (fun _ _ _ _ => trivial)⟩⟩ rfl rfl hl.1 rfl (lv_room (Nat.le_of_ble_eq_true rfl)) dX4_addType_50 ⟨Nat.le_of_ble_eq_true rfl, Nat.le_of_ble_eq_true rfl⟩) hS (fun q _ h => hFc q h) hFc (fun u t H1 locs ht hvm hw hB hz1 hk1 hS => ?_)
  obtain ⟨y_18, y_19, y_20, p_21, hP1, hK1, hD1⟩ := hB
  rw [ht] at hP1
  obtain ⟨hP, hD⟩ := va_join (wr := [(h0, .inr (4, [.ref (pd 0), .ref (pd 1), .ref (pd 2), .ref (pd 3), .ref (pd 4), .ref (pd 5), .ref (pd 6), .ref (pd 7), .ref (pd 8), .ref (pd 9), .ref (pd 10), .ref (pd 11), .ref (pd 12), .ref (pd 13)])), (pd 11, .inr (0, [.ref (pe 11), .int (nI 0)])), (pe 11, .inl (cI, n11, .inl f11)), (pd 0, .inr (0, [.ref y_3, .int (nI 1)])), (y_3, .inl (cI, y_4, .inl y_5)), (pd 1, .inr (0, [.ref y_8, .int (nI 1)])), (y_8, .inl (cI, y_9, .inl y_10)), (pd 2, .inr (0, [.ref y_13, .int (nI 1)])), (y_13, .inl (cI, y_14, .inl y_15))]) (w1 := [(pd 3, .inr (0, [.ref y_18, .int (nI 1)])), (y_18, .inl (cI, y_19, .inl y_20))]) hP hD [1, 2] [0, 3, 4, 5, 6, 7, 8, 9, 10] rfl rfl (by decide) (by decide) hk1 hFc hP1 hD1
  generalize H1 = H at hP hS ⊢
  have hP : va_P (dC, dI) vwCl [(h0, .inr (4, [.ref (pd 0), .ref (pd 1), .ref (pd 2), .ref (pd 3), .ref (pd 4), .ref (pd 5), .ref (pd 6), .ref (pd 7), .ref (pd 8), .ref (pd 9), .ref (pd 10), .ref (pd 11), .ref (pd 12), .ref (pd 13)])), (pd 11, .inr (0, [.ref (pe 11), .int (nI 0)])), (pe 11, .inl (cI, n11, .inl f11)), (pd 0, .inr (0, [.ref y_3, .int (nI 1)])), (y_3, .inl (cI, y_4, .inl y_5)), (pd 1, .inr (0, [.ref y_8, .int (nI 1)])), (y_8, .inl (cI, y_9, .inl y_10)), (pd 2, .inr (0, [.ref y_13, .int (nI 1)])), (y_13, .inl (cI, y_14, .inl y_15)), (pd 3, .inr (0, [.ref y_18, .int (nI 1)])), (y_18, .inl (cI, y_19, .inl y_20))] H := hP
  have hD : va_D A [(h0, .inr (4, [.ref (pd 0), .ref (pd 1), .ref (pd 2), .ref (pd 3), .ref (pd 4), .ref (pd 5), .ref (pd 6), .ref (pd 7), .ref (pd 8), .ref (pd 9), .ref (pd 10), .ref (pd 11), .ref (pd 12), .ref (pd 13)])), (pd 11, .inr (0, [.ref (pe 11), .int (nI 0)])), (pe 11, .inl (cI, n11, .inl f11)), (pd 0, .inr (0, [.ref y_3, .int (nI 1)])), (y_3, .inl (cI, y_4, .inl y_5)), (pd 1, .inr (0, [.ref y_8, .int (nI 1)])), (y_8, .inl (cI, y_9, .inl y_10)), (pd 2, .inr (0, [.ref y_13, .int (nI 1)])), (y_13, .inl (cI, y_14, .inl y_15)), (pd 3, .inr (0, [.ref y_18, .int (nI 1)])), (y_18, .inl (cI, y_19, .inl y_20))] := hD
  refine W.widen (k := 4) (n := 2416) (Nat.le_of_ble_eq_true rfl) (Nat.le_of_ble_eq_true rfl) ?_
  refine lv_aload_n hx hb dX4_addType_53 rfl (lv_at hl 1 rfl) ?_
  refine va_get (D := (dC, dI)) (ci := 4) (v := .ref (pd 11)) (C := RX4) (T := TX4) (N := 14) hx hb hts (fun w h => List.mem_cons_of_mem _ (List.mem_append_left _ (List.mem_append_right _ h))) hown hK hP 0 rfl rfl 11 (by decide) (hts (.fieldLink RX4 49 "PolarTypes$Types" "lastAsked" "LPolarTypes$Row;") (List.mem_of_getElem? (i := 6) (by decide +kernel))) (fun _ h9 => h9) rfl dX4_addType_54 ?_
  refine lv_bipush (v := (-9)) hx hb dX4_addType_57 (by decide) ?_
  have hPc := hP.sub (ws' := [(pd 11, .inr (0, [.ref (pe 11), .int (nI 0)])), (pe 11, .inl (cI, n11, .inl f11))]) [1, 2] rfl
  have hDc := hD.sub (ws' := [(pd 11, .inr (0, [.ref (pe 11), .int (nI 0)])), (pe 11, .inl (cI, n11, .inl f11))]) [1, 2] (by decide) rfl
  have hFc := va_free (wc := [(pd 11, .inr (0, [.ref (pe 11), .int (nI 0)])), (pe 11, .inl (cI, n11, .inl f11))]) hD hS hA [1, 2] rfl
  refine va_callv (va_runV (As := [.int ((-9))]) (rest := []) ⟨hx, hb, hml, hown, hts⟩ (c_Row_add l dC dI cI (pd 11) (pe 11) 0 n11 f11 ((-9)) hn11.1 ((by decide)) hn11.2 H.size) (cwV 1 hts gX4_addType_X0_add rfl rfl rfl (by decide +kernel) ⟨Nat.le_of_ble_eq_true rfl, Nat.le_of_ble_eq_true rfl⟩) ⟨fun a U g mk q => by obtain ⟨q0, q1, qP, qK, qD⟩ := q; exact ⟨q0, q1, qP, va_K.moved (u := U) (U := U.calling g mk a) (Vm.Alike.refl U.vm) qK, qD⟩, va_recv hK hPc (ci := 0) (q0 := 0) rfl rfl, fun U hU hW => ⟨rfl, by rw [hU], by rw [hU]; exact hPc, va_K.moved hW.alike hK, hDc.weaken (fun _ _ _ _ => trivial)⟩⟩ rfl rfl hl.1 rfl (lv_room (Nat.le_of_ble_eq_true rfl)) dX4_addType_59 ⟨Nat.le_of_ble_eq_true rfl, Nat.le_of_ble_eq_true rfl⟩) hS (fun q _ h => hFc q h) hFc (fun u t H1 locs ht hvm hw hB hz1 hk1 hS => ?_)
  obtain ⟨y_23, y_24, y_25, p_26, hP1, hK1, hD1⟩ := hB
  rw [ht] at hP1
  obtain ⟨hP, hD⟩ := va_join (wr := [(h0, .inr (4, [.ref (pd 0), .ref (pd 1), .ref (pd 2), .ref (pd 3), .ref (pd 4), .ref (pd 5), .ref (pd 6), .ref (pd 7), .ref (pd 8), .ref (pd 9), .ref (pd 10), .ref (pd 11), .ref (pd 12), .ref (pd 13)])), (pd 0, .inr (0, [.ref y_3, .int (nI 1)])), (y_3, .inl (cI, y_4, .inl y_5)), (pd 1, .inr (0, [.ref y_8, .int (nI 1)])), (y_8, .inl (cI, y_9, .inl y_10)), (pd 2, .inr (0, [.ref y_13, .int (nI 1)])), (y_13, .inl (cI, y_14, .inl y_15)), (pd 3, .inr (0, [.ref y_18, .int (nI 1)])), (y_18, .inl (cI, y_19, .inl y_20))]) (w1 := [(pd 11, .inr (0, [.ref y_23, .int (nI 1)])), (y_23, .inl (cI, y_24, .inl y_25))]) hP hD [1, 2] [0, 3, 4, 5, 6, 7, 8, 9, 10] rfl rfl (by decide) (by decide) hk1 hFc hP1 hD1
  generalize H1 = H at hP hS ⊢
  have hP : va_P (dC, dI) vwCl [(h0, .inr (4, [.ref (pd 0), .ref (pd 1), .ref (pd 2), .ref (pd 3), .ref (pd 4), .ref (pd 5), .ref (pd 6), .ref (pd 7), .ref (pd 8), .ref (pd 9), .ref (pd 10), .ref (pd 11), .ref (pd 12), .ref (pd 13)])), (pd 0, .inr (0, [.ref y_3, .int (nI 1)])), (y_3, .inl (cI, y_4, .inl y_5)), (pd 1, .inr (0, [.ref y_8, .int (nI 1)])), (y_8, .inl (cI, y_9, .inl y_10)), (pd 2, .inr (0, [.ref y_13, .int (nI 1)])), (y_13, .inl (cI, y_14, .inl y_15)), (pd 3, .inr (0, [.ref y_18, .int (nI 1)])), (y_18, .inl (cI, y_19, .inl y_20)), (pd 11, .inr (0, [.ref y_23, .int (nI 1)])), (y_23, .inl (cI, y_24, .inl y_25))] H := hP
  have hD : va_D A [(h0, .inr (4, [.ref (pd 0), .ref (pd 1), .ref (pd 2), .ref (pd 3), .ref (pd 4), .ref (pd 5), .ref (pd 6), .ref (pd 7), .ref (pd 8), .ref (pd 9), .ref (pd 10), .ref (pd 11), .ref (pd 12), .ref (pd 13)])), (pd 0, .inr (0, [.ref y_3, .int (nI 1)])), (y_3, .inl (cI, y_4, .inl y_5)), (pd 1, .inr (0, [.ref y_8, .int (nI 1)])), (y_8, .inl (cI, y_9, .inl y_10)), (pd 2, .inr (0, [.ref y_13, .int (nI 1)])), (y_13, .inl (cI, y_14, .inl y_15)), (pd 3, .inr (0, [.ref y_18, .int (nI 1)])), (y_18, .inl (cI, y_19, .inl y_20)), (pd 11, .inr (0, [.ref y_23, .int (nI 1)])), (y_23, .inl (cI, y_24, .inl y_25))] := hD
  refine W.widen (k := 5) (n := 3020) (Nat.le_of_ble_eq_true rfl) (Nat.le_of_ble_eq_true rfl) ?_
  refine lv_iload hx hb dX4_addType_62 (lv_at hl 0 rfl) ?_
  have hP9 := hP.sub (ws' := [(h0, .inr (4, [.ref (pd 0), .ref (pd 1), .ref (pd 2), .ref (pd 3), .ref (pd 4), .ref (pd 5), .ref (pd 6), .ref (pd 7), .ref (pd 8), .ref (pd 9), .ref (pd 10), .ref (pd 11), .ref (pd 12), .ref (pd 13)])), (pd 0, .inr (0, [.ref y_3, .int (nI 1)])), (y_3, .inl (cI, y_4, .inl y_5)), (pd 1, .inr (0, [.ref y_8, .int (nI 1)])), (y_8, .inl (cI, y_9, .inl y_10)), (pd 2, .inr (0, [.ref y_13, .int (nI 1)])), (y_13, .inl (cI, y_14, .inl y_15)), (pd 3, .inr (0, [.ref y_18, .int (nI 1)])), (y_18, .inl (cI, y_19, .inl y_20)), (pd 11, .inr (0, [.ref y_23, .int (nI 1)])), (y_23, .inl (cI, y_24, .inl y_25))]) [0, 1, 2, 3, 4, 5, 6, 7, 8, 9, 10] rfl
  have hD9 := hD.sub (ws' := [(h0, .inr (4, [.ref (pd 0), .ref (pd 1), .ref (pd 2), .ref (pd 3), .ref (pd 4), .ref (pd 5), .ref (pd 6), .ref (pd 7), .ref (pd 8), .ref (pd 9), .ref (pd 10), .ref (pd 11), .ref (pd 12), .ref (pd 13)])), (pd 0, .inr (0, [.ref y_3, .int (nI 1)])), (y_3, .inl (cI, y_4, .inl y_5)), (pd 1, .inr (0, [.ref y_8, .int (nI 1)])), (y_8, .inl (cI, y_9, .inl y_10)), (pd 2, .inr (0, [.ref y_13, .int (nI 1)])), (y_13, .inl (cI, y_14, .inl y_15)), (pd 3, .inr (0, [.ref y_18, .int (nI 1)])), (y_18, .inl (cI, y_19, .inl y_20)), (pd 11, .inr (0, [.ref y_23, .int (nI 1)])), (y_23, .inl (cI, y_24, .inl y_25))]) [0, 1, 2, 3, 4, 5, 6, 7, 8, 9, 10] (by decide) rfl
  refine W.widen (k := 5) (n := 3020) (Nat.le_of_ble_eq_true rfl) (Nat.le_of_ble_eq_true rfl) ?_
  exact W.iret (v := nI 0) hx hb hr (fun t ht hW => ⟨⟨nI 0, (), rfl, rfl, y_3, y_8, y_13, y_18, y_23, y_4, y_9, y_14, y_19, y_24, y_5, y_10, y_15, y_20, y_25, ⟨p_6.1, p_6.2.1⟩, ⟨p_11.1, p_11.2.1⟩, ⟨p_16.1, p_16.2.1⟩, ⟨p_21.1, p_21.2.1⟩, ⟨p_26.1, p_26.2.1⟩, by rw [ht]; exact hP9, va_K.moved hW.alike hK, hD9⟩, hS.F ht⟩) hS.2.2 dX4_addType_64

set_option maxHeartbeats 4000000 in
set_option maxRecDepth 100000 in
/-- addType, at 1 types -/
theorem c_addType_1 (l : Launch) (dC : Nat → ClassId) (dI : Nat → Nat → Nat) (cI : ClassId) (h0 : Nat) (pd : Nat → Nat) (pe : Nat → Nat) (n0 : Nat) (n1 : Nat) (n2 : Nat) (n3 : Nat) (n11 : Nat) (f0 : Nat → Int32) (f1 : Nat → Int32) (f2 : Nat → Int32) (f3 : Nat → Int32) (f11 : Nat → Int32) (so : Int32) (lv : Int32) (fi : Int32) (se : Int32) (hn0 : 1 ≤ n0 ∧ n0 ≤ 100000) (hn1 : 1 ≤ n1 ∧ n1 ≤ 100000) (hn2 : 1 ≤ n2 ∧ n2 ≤ 100000) (hn3 : 1 ≤ n3 ∧ n3 ≤ 100000) (hn11 : 1 ≤ n11 ∧ n11 ≤ 100000) (sz : Nat) : Met l yX4_addType wsX4_addType ({ frames := 3, cells := 5, slots := 3020, locals := 103 }) (va_Pc [.ref h0, .int so, .int lv, .int fi, .int se] (fun U => U.heap.size = sz ∧ va_P (dC, dI) vwCl [(h0, .inr (4, [.ref (pd 0), .ref (pd 1), .ref (pd 2), .ref (pd 3), .ref (pd 4), .ref (pd 5), .ref (pd 6), .ref (pd 7), .ref (pd 8), .ref (pd 9), .ref (pd 10), .ref (pd 11), .ref (pd 12), .ref (pd 13)])), (pd 0, .inr (0, [.ref (pe 0), .int (nI 1)])), (pe 0, .inl (cI, n0, .inl f0)), (pd 1, .inr (0, [.ref (pe 1), .int (nI 1)])), (pe 1, .inl (cI, n1, .inl f1)), (pd 2, .inr (0, [.ref (pe 2), .int (nI 1)])), (pe 2, .inl (cI, n2, .inl f2)), (pd 3, .inr (0, [.ref (pe 3), .int (nI 1)])), (pe 3, .inl (cI, n3, .inl f3)), (pd 11, .inr (0, [.ref (pe 11), .int (nI 1)])), (pe 11, .inl (cI, n11, .inl f11))] U.heap ∧ va_K (dC, dI) vwCl [(cI, .int)] U ∧ va_D (fun _ => True) [(h0, .inr (4, [.ref (pd 0), .ref (pd 1), .ref (pd 2), .ref (pd 3), .ref (pd 4), .ref (pd 5), .ref (pd 6), .ref (pd 7), .ref (pd 8), .ref (pd 9), .ref (pd 10), .ref (pd 11), .ref (pd 12), .ref (pd 13)])), (pd 0, .inr (0, [.ref (pe 0), .int (nI 1)])), (pe 0, .inl (cI, n0, .inl f0)), (pd 1, .inr (0, [.ref (pe 1), .int (nI 1)])), (pe 1, .inl (cI, n1, .inl f1)), (pd 2, .inr (0, [.ref (pe 2), .int (nI 1)])), (pe 2, .inl (cI, n2, .inl f2)), (pd 3, .inr (0, [.ref (pe 3), .int (nI 1)])), (pe 3, .inl (cI, n3, .inl f3)), (pd 11, .inr (0, [.ref (pe 11), .int (nI 1)])), (pe 11, .inl (cI, n11, .inl f11))])) (va_Qi (fun (r : Int32) (_ : Unit) => r = 1) (fun (_ : Unit) (t : State) => ∃ (q0 : Nat), ∃ (q1 : Nat), ∃ (q2 : Nat), ∃ (q3 : Nat), ∃ (q11 : Nat), ∃ (m0 : Nat), ∃ (m1 : Nat), ∃ (m2 : Nat), ∃ (m3 : Nat), ∃ (m11 : Nat), ∃ (g0 : Nat → Int32), ∃ (g1 : Nat → Int32), ∃ (g2 : Nat → Int32), ∃ (g3 : Nat → Int32), ∃ (g11 : Nat → Int32), (2 ≤ m0 ∧ m0 ≤ 100000) ∧ (2 ≤ m1 ∧ m1 ≤ 100000) ∧ (2 ≤ m2 ∧ m2 ≤ 100000) ∧ (2 ≤ m3 ∧ m3 ≤ 100000) ∧ (2 ≤ m11 ∧ m11 ≤ 100000) ∧ va_P (dC, dI) vwCl [(h0, .inr (4, [.ref (pd 0), .ref (pd 1), .ref (pd 2), .ref (pd 3), .ref (pd 4), .ref (pd 5), .ref (pd 6), .ref (pd 7), .ref (pd 8), .ref (pd 9), .ref (pd 10), .ref (pd 11), .ref (pd 12), .ref (pd 13)])), (pd 0, .inr (0, [.ref q0, .int (nI 2)])), (q0, .inl (cI, m0, .inl g0)), (pd 1, .inr (0, [.ref q1, .int (nI 2)])), (q1, .inl (cI, m1, .inl g1)), (pd 2, .inr (0, [.ref q2, .int (nI 2)])), (q2, .inl (cI, m2, .inl g2)), (pd 3, .inr (0, [.ref q3, .int (nI 2)])), (q3, .inl (cI, m3, .inl g3)), (pd 11, .inr (0, [.ref q11, .int (nI 2)])), (q11, .inl (cI, m11, .inl g11))] t.heap ∧ va_K (dC, dI) vwCl [(cI, .int)] t ∧ va_D (va_A [(h0, .inr (4, [.ref (pd 0), .ref (pd 1), .ref (pd 2), .ref (pd 3), .ref (pd 4), .ref (pd 5), .ref (pd 6), .ref (pd 7), .ref (pd 8), .ref (pd 9), .ref (pd 10), .ref (pd 11), .ref (pd 12), .ref (pd 13)])), (pd 0, .inr (0, [.ref (pe 0), .int (nI 1)])), (pe 0, .inl (cI, n0, .inl f0)), (pd 1, .inr (0, [.ref (pe 1), .int (nI 1)])), (pe 1, .inl (cI, n1, .inl f1)), (pd 2, .inr (0, [.ref (pe 2), .int (nI 1)])), (pe 2, .inl (cI, n2, .inl f2)), (pd 3, .inr (0, [.ref (pe 3), .int (nI 1)])), (pe 3, .inl (cI, n3, .inl f3)), (pd 11, .inr (0, [.ref (pe 11), .int (nI 1)])), (pe 11, .inl (cI, n11, .inl f11))] sz) [(h0, .inr (4, [.ref (pd 0), .ref (pd 1), .ref (pd 2), .ref (pd 3), .ref (pd 4), .ref (pd 5), .ref (pd 6), .ref (pd 7), .ref (pd 8), .ref (pd 9), .ref (pd 10), .ref (pd 11), .ref (pd 12), .ref (pd 13)])), (pd 0, .inr (0, [.ref q0, .int (nI 2)])), (q0, .inl (cI, m0, .inl g0)), (pd 1, .inr (0, [.ref q1, .int (nI 2)])), (q1, .inl (cI, m1, .inl g1)), (pd 2, .inr (0, [.ref q2, .int (nI 2)])), (q2, .inl (cI, m2, .inl g2)), (pd 3, .inr (0, [.ref q3, .int (nI 2)])), (q3, .inl (cI, m3, .inl g3)), (pd 11, .inr (0, [.ref q11, .int (nI 2)])), (q11, .inl (cI, m11, .inl g11))]) (va_A [(h0, .inr (4, [.ref (pd 0), .ref (pd 1), .ref (pd 2), .ref (pd 3), .ref (pd 4), .ref (pd 5), .ref (pd 6), .ref (pd 7), .ref (pd 8), .ref (pd 9), .ref (pd 10), .ref (pd 11), .ref (pd 12), .ref (pd 13)])), (pd 0, .inr (0, [.ref (pe 0), .int (nI 1)])), (pe 0, .inl (cI, n0, .inl f0)), (pd 1, .inr (0, [.ref (pe 1), .int (nI 1)])), (pe 1, .inl (cI, n1, .inl f1)), (pd 2, .inr (0, [.ref (pe 2), .int (nI 1)])), (pe 2, .inl (cI, n2, .inl f2)), (pd 3, .inr (0, [.ref (pe 3), .int (nI 1)])), (pe 3, .inl (cI, n3, .inl f3)), (pd 11, .inr (0, [.ref (pe 11), .int (nI 1)])), (pe 11, .inl (cI, n11, .inl f11))] sz)) 5 3020 (va_A [(h0, .inr (4, [.ref (pd 0), .ref (pd 1), .ref (pd 2), .ref (pd 3), .ref (pd 4), .ref (pd 5), .ref (pd 6), .ref (pd 7), .ref (pd 8), .ref (pd 9), .ref (pd 10), .ref (pd 11), .ref (pd 12), .ref (pd 13)])), (pd 0, .inr (0, [.ref (pe 0), .int (nI 1)])), (pe 0, .inl (cI, n0, .inl f0)), (pd 1, .inr (0, [.ref (pe 1), .int (nI 1)])), (pe 1, .inl (cI, n1, .inl f1)), (pd 2, .inr (0, [.ref (pe 2), .int (nI 1)])), (pe 2, .inl (cI, n2, .inl f2)), (pd 3, .inr (0, [.ref (pe 3), .int (nI 1)])), (pe 3, .inl (cI, n3, .inl f3)), (pd 11, .inr (0, [.ref (pe 11), .int (nI 1)])), (pe 11, .inl (cI, n11, .inl f11))] sz) := by
  refine Met.ofW (cc := cX4_addType) (maxL := 6) (ret := (some .int)) (by decide) rfl ?_
  intro p e s m args below meth c s₁ B hml hv
  obtain ⟨rfl, hsz, hP, hK, hD0⟩ := hv
  have hx := B.exec
  have hb := B.bytes
  have hr := B.returns
  have hts := atoms_spec (ws := wsX4_addType) B.pre
  have hown : s.vm.findClass RX4 = some m.cls := findClass_of_methodNamed B.named
  have hlocks := B.notSynchronized
  subst hsz
  have hD := hD0.self (sz := s.heap.size)
  generalize hAe : va_A [(h0, .inr (4, [.ref (pd 0), .ref (pd 1), .ref (pd 2), .ref (pd 3), .ref (pd 4), .ref (pd 5), .ref (pd 6), .ref (pd 7), .ref (pd 8), .ref (pd 9), .ref (pd 10), .ref (pd 11), .ref (pd 12), .ref (pd 13)])), (pd 0, .inr (0, [.ref (pe 0), .int (nI 1)])), (pe 0, .inl (cI, n0, .inl f0)), (pd 1, .inr (0, [.ref (pe 1), .int (nI 1)])), (pe 1, .inl (cI, n1, .inl f1)), (pd 2, .inr (0, [.ref (pe 2), .int (nI 1)])), (pe 2, .inl (cI, n2, .inl f2)), (pd 3, .inr (0, [.ref (pe 3), .int (nI 1)])), (pe 3, .inl (cI, n3, .inl f3)), (pd 11, .inr (0, [.ref (pe 11), .int (nI 1)])), (pe 11, .inl (cI, n11, .inl f11))] s.heap.size = A at hD ⊢
  have hA : ∀ q : Nat, s.heap.size ≤ q → A q := fun q h => by rw [← hAe]; exact Or.inr h
  have hS : va_S A s.heap s.heap [] := va_S.rf
  have hP : va_P (dC, dI) vwCl [(h0, .inr (4, [.ref (pd 0), .ref (pd 1), .ref (pd 2), .ref (pd 3), .ref (pd 4), .ref (pd 5), .ref (pd 6), .ref (pd 7), .ref (pd 8), .ref (pd 9), .ref (pd 10), .ref (pd 11), .ref (pd 12), .ref (pd 13)])), (pd 0, .inr (0, [.ref (pe 0), .int (nI 1)])), (pe 0, .inl (cI, n0, .inl f0)), (pd 1, .inr (0, [.ref (pe 1), .int (nI 1)])), (pe 1, .inl (cI, n1, .inl f1)), (pd 2, .inr (0, [.ref (pe 2), .int (nI 1)])), (pe 2, .inl (cI, n2, .inl f2)), (pd 3, .inr (0, [.ref (pe 3), .int (nI 1)])), (pe 3, .inl (cI, n3, .inl f3)), (pd 11, .inr (0, [.ref (pe 11), .int (nI 1)])), (pe 11, .inl (cI, n11, .inl f11))] s.heap := hP
  have hl := lv_entry ([.ref h0, .int so, .int lv, .int fi, .int se]) (n := 6) (Nat.le_of_ble_eq_true rfl)
  rw [lg_entry_eq]
  generalize (lg_sl ([.ref h0, .int so, .int lv, .int fi, .int se]) ++ List.replicate (6 - (lg_sl ([.ref h0, .int so, .int lv, .int fi, .int se])).length) Slot.unset).toArray = ls at hl ⊢
  have hl : lv_has ls 6 [(0, .ref h0), (1, .int so), (2, .int lv), (3, .int fi), (4, .int se)] := hl
  obtain ⟨H, hHe⟩ : ∃ H : Heap, H = s.heap := ⟨_, rfl⟩
  rw [← hHe] at hP ⊢
  have hS : va_S A s.heap H [] := by rw [hHe]; exact va_S.rf
  refine lv_aload_n hx hb dX4_addType_0 rfl (lv_at hl 0 rfl) ?_
  refine va_get (D := (dC, dI)) (ci := 4) (v := .ref (pd 0)) (C := RX4) (T := TX4) (N := 14) hx hb hts (fun w h => List.mem_cons_of_mem _ (List.mem_append_left _ (List.mem_append_right _ h))) hown hK hP 0 rfl rfl 0 (by decide) (hts (.fieldLink RX4 12 "PolarTypes$Types" "sorts" "LPolarTypes$Row;") (List.mem_of_getElem? (i := 1) (by decide +kernel))) (fun _ h9 => h9) rfl dX4_addType_1 ?_
  refine va_get (D := (dC, dI)) (ci := 0) (v := .int (nI 1)) (C := RX0) (T := TX0) (N := 2) hx hb hts (fun w h => List.mem_cons_of_mem _ (List.mem_append_right _ h)) hown hK hP 1 rfl rfl 1 (by decide) (hts (.fieldLink RX4 69 "PolarTypes$Row" "size" "I") (List.mem_of_getElem? (i := 2) (by decide +kernel))) (fun _ h9 => h9) rfl dX4_addType_4 ?_
  refine lv_istore (lv' := [(5, .int (nI 1)), (0, .ref h0), (1, .int so), (2, .int lv), (3, .int fi), (4, .int se)]) hx hb dX4_addType_7 hl (by decide) rfl (fun ls hl => ?_)
  refine lv_iload hx hb dX4_addType_9 (lv_at hl 0 rfl) ?_
  refine lv_sipush (v := 602) hx hb dX4_addType_11 (by decide) ?_
  refine lv_icmp_lt (tgt := 20) hx hb dX4_addType_14 (by decide) (fun c_1 => ?_) (fun c_1 => absurd (by decide) c_1)
  refine lv_aload_n hx hb dX4_addType_20 rfl (lv_at hl 1 rfl) ?_
  refine va_get (D := (dC, dI)) (ci := 4) (v := .ref (pd 0)) (C := RX4) (T := TX4) (N := 14) hx hb hts (fun w h => List.mem_cons_of_mem _ (List.mem_append_left _ (List.mem_append_right _ h))) hown hK hP 0 rfl rfl 0 (by decide) (hts (.fieldLink RX4 12 "PolarTypes$Types" "sorts" "LPolarTypes$Row;") (List.mem_of_getElem? (i := 1) (by decide +kernel))) (fun _ h9 => h9) rfl dX4_addType_21 ?_
  refine lv_iload_n hx hb dX4_addType_24 rfl (lv_at hl 2 rfl) ?_
  have hPc := hP.sub (ws' := [(pd 0, .inr (0, [.ref (pe 0), .int (nI 1)])), (pe 0, .inl (cI, n0, .inl f0))]) [1, 2] rfl
  have hDc := hD.sub (ws' := [(pd 0, .inr (0, [.ref (pe 0), .int (nI 1)])), (pe 0, .inl (cI, n0, .inl f0))]) [1, 2] (by decide) rfl
  have hFc := va_free (wc := [(pd 0, .inr (0, [.ref (pe 0), .int (nI 1)])), (pe 0, .inl (cI, n0, .inl f0))]) hD hS hA [1, 2] rfl
  refine va_callv (va_runV (As := [.int so]) (rest := []) ⟨hx, hb, hml, hown, hts⟩ (c_Row_add l dC dI cI (pd 0) (pe 0) 1 n0 f0 so hn0.1 ((by decide)) hn0.2 H.size) (cwV 1 hts gX4_addType_X0_add rfl rfl rfl (by decide +kernel) ⟨Nat.le_of_ble_eq_true rfl, Nat.le_of_ble_eq_true rfl⟩) ⟨fun a U g mk q => by obtain ⟨q0, q1, qP, qK, qD⟩ := q; exact ⟨q0, q1, qP, va_K.moved (u := U) (U := U.calling g mk a) (Vm.Alike.refl U.vm) qK, qD⟩, va_recv hK hPc (ci := 0) (q0 := 0) rfl rfl, fun U hU hW => ⟨rfl, by rw [hU], by rw [hU]; exact hPc, va_K.moved hW.alike hK, hDc.weaken (fun _ _ _ _ => trivial)⟩⟩ rfl rfl hl.1 rfl (lv_room (Nat.le_of_ble_eq_true rfl)) dX4_addType_25 ⟨Nat.le_of_ble_eq_true rfl, Nat.le_of_ble_eq_true rfl⟩) hS (fun q _ h => hFc q h) hFc (fun u t H1 locs ht hvm hw hB hz1 hk1 hS => ?_)
  obtain ⟨y_3, y_4, y_5, p_6, hP1, hK1, hD1⟩ := hB
  rw [ht] at hP1
  obtain ⟨hP, hD⟩ := va_join (wr := [(h0, .inr (4, [.ref (pd 0), .ref (pd 1), .ref (pd 2), .ref (pd 3), .ref (pd 4), .ref (pd 5), .ref (pd 6), .ref (pd 7), .ref (pd 8), .ref (pd 9), .ref (pd 10), .ref (pd 11), .ref (pd 12), .ref (pd 13)])), (pd 1, .inr (0, [.ref (pe 1), .int (nI 1)])), (pe 1, .inl (cI, n1, .inl f1)), (pd 2, .inr (0, [.ref (pe 2), .int (nI 1)])), (pe 2, .inl (cI, n2, .inl f2)), (pd 3, .inr (0, [.ref (pe 3), .int (nI 1)])), (pe 3, .inl (cI, n3, .inl f3)), (pd 11, .inr (0, [.ref (pe 11), .int (nI 1)])), (pe 11, .inl (cI, n11, .inl f11))]) (w1 := [(pd 0, .inr (0, [.ref y_3, .int (nI 2)])), (y_3, .inl (cI, y_4, .inl y_5))]) hP hD [1, 2] [0, 3, 4, 5, 6, 7, 8, 9, 10] rfl rfl (by decide) (by decide) hk1 hFc hP1 hD1
  generalize H1 = H at hP hS ⊢
  have hP : va_P (dC, dI) vwCl [(h0, .inr (4, [.ref (pd 0), .ref (pd 1), .ref (pd 2), .ref (pd 3), .ref (pd 4), .ref (pd 5), .ref (pd 6), .ref (pd 7), .ref (pd 8), .ref (pd 9), .ref (pd 10), .ref (pd 11), .ref (pd 12), .ref (pd 13)])), (pd 1, .inr (0, [.ref (pe 1), .int (nI 1)])), (pe 1, .inl (cI, n1, .inl f1)), (pd 2, .inr (0, [.ref (pe 2), .int (nI 1)])), (pe 2, .inl (cI, n2, .inl f2)), (pd 3, .inr (0, [.ref (pe 3), .int (nI 1)])), (pe 3, .inl (cI, n3, .inl f3)), (pd 11, .inr (0, [.ref (pe 11), .int (nI 1)])), (pe 11, .inl (cI, n11, .inl f11)), (pd 0, .inr (0, [.ref y_3, .int (nI 2)])), (y_3, .inl (cI, y_4, .inl y_5))] H := hP
  have hD : va_D A [(h0, .inr (4, [.ref (pd 0), .ref (pd 1), .ref (pd 2), .ref (pd 3), .ref (pd 4), .ref (pd 5), .ref (pd 6), .ref (pd 7), .ref (pd 8), .ref (pd 9), .ref (pd 10), .ref (pd 11), .ref (pd 12), .ref (pd 13)])), (pd 1, .inr (0, [.ref (pe 1), .int (nI 1)])), (pe 1, .inl (cI, n1, .inl f1)), (pd 2, .inr (0, [.ref (pe 2), .int (nI 1)])), (pe 2, .inl (cI, n2, .inl f2)), (pd 3, .inr (0, [.ref (pe 3), .int (nI 1)])), (pe 3, .inl (cI, n3, .inl f3)), (pd 11, .inr (0, [.ref (pe 11), .int (nI 1)])), (pe 11, .inl (cI, n11, .inl f11)), (pd 0, .inr (0, [.ref y_3, .int (nI 2)])), (y_3, .inl (cI, y_4, .inl y_5))] := hD
  refine W.widen (k := 1) (n := 604) (Nat.le_of_ble_eq_true rfl) (Nat.le_of_ble_eq_true rfl) ?_
  refine lv_aload_n hx hb dX4_addType_28 rfl (lv_at hl 1 rfl) ?_
  refine va_get (D := (dC, dI)) (ci := 4) (v := .ref (pd 1)) (C := RX4) (T := TX4) (N := 14) hx hb hts (fun w h => List.mem_cons_of_mem _ (List.mem_append_left _ (List.mem_append_right _ h))) hown hK hP 0 rfl rfl 1 (by decide) (hts (.fieldLink RX4 18 "PolarTypes$Types" "levels" "LPolarTypes$Row;") (List.mem_of_getElem? (i := 3) (by decide +kernel))) (fun _ h9 => h9) rfl dX4_addType_29 ?_
  refine lv_iload_n hx hb dX4_addType_32 rfl (lv_at hl 3 rfl) ?_
  have hPc := hP.sub (ws' := [(pd 1, .inr (0, [.ref (pe 1), .int (nI 1)])), (pe 1, .inl (cI, n1, .inl f1))]) [1, 2] rfl
  have hDc := hD.sub (ws' := [(pd 1, .inr (0, [.ref (pe 1), .int (nI 1)])), (pe 1, .inl (cI, n1, .inl f1))]) [1, 2] (by decide) rfl
  have hFc := va_free (wc := [(pd 1, .inr (0, [.ref (pe 1), .int (nI 1)])), (pe 1, .inl (cI, n1, .inl f1))]) hD hS hA [1, 2] rfl
  refine va_callv (va_runV (As := [.int lv]) (rest := []) ⟨hx, hb, hml, hown, hts⟩ (c_Row_add l dC dI cI (pd 1) (pe 1) 1 n1 f1 lv hn1.1 ((by decide)) hn1.2 H.size) (cwV 1 hts gX4_addType_X0_add rfl rfl rfl (by decide +kernel) ⟨Nat.le_of_ble_eq_true rfl, Nat.le_of_ble_eq_true rfl⟩) ⟨fun a U g mk q => by obtain ⟨q0, q1, qP, qK, qD⟩ := q; exact ⟨q0, q1, qP, va_K.moved (u := U) (U := U.calling g mk a) (Vm.Alike.refl U.vm) qK, qD⟩, va_recv hK hPc (ci := 0) (q0 := 0) rfl rfl, fun U hU hW => ⟨rfl, by rw [hU], by rw [hU]; exact hPc, va_K.moved hW.alike hK, hDc.weaken (fun _ _ _ _ => trivial)⟩⟩ rfl rfl hl.1 rfl (lv_room (Nat.le_of_ble_eq_true rfl)) dX4_addType_33 ⟨Nat.le_of_ble_eq_true rfl, Nat.le_of_ble_eq_true rfl⟩) hS (fun q _ h => hFc q h) hFc (fun u t H1 locs ht hvm hw hB hz1 hk1 hS => ?_)
  obtain ⟨y_8, y_9, y_10, p_11, hP1, hK1, hD1⟩ := hB
  rw [ht] at hP1
  obtain ⟨hP, hD⟩ := va_join (wr := [(h0, .inr (4, [.ref (pd 0), .ref (pd 1), .ref (pd 2), .ref (pd 3), .ref (pd 4), .ref (pd 5), .ref (pd 6), .ref (pd 7), .ref (pd 8), .ref (pd 9), .ref (pd 10), .ref (pd 11), .ref (pd 12), .ref (pd 13)])), (pd 2, .inr (0, [.ref (pe 2), .int (nI 1)])), (pe 2, .inl (cI, n2, .inl f2)), (pd 3, .inr (0, [.ref (pe 3), .int (nI 1)])), (pe 3, .inl (cI, n3, .inl f3)), (pd 11, .inr (0, [.ref (pe 11), .int (nI 1)])), (pe 11, .inl (cI, n11, .inl f11)), (pd 0, .inr (0, [.ref y_3, .int (nI 2)])), (y_3, .inl (cI, y_4, .inl y_5))]) (w1 := [(pd 1, .inr (0, [.ref y_8, .int (nI 2)])), (y_8, .inl (cI, y_9, .inl y_10))]) hP hD [1, 2] [0, 3, 4, 5, 6, 7, 8, 9, 10] rfl rfl (by decide) (by decide) hk1 hFc hP1 hD1
  generalize H1 = H at hP hS ⊢
  have hP : va_P (dC, dI) vwCl [(h0, .inr (4, [.ref (pd 0), .ref (pd 1), .ref (pd 2), .ref (pd 3), .ref (pd 4), .ref (pd 5), .ref (pd 6), .ref (pd 7), .ref (pd 8), .ref (pd 9), .ref (pd 10), .ref (pd 11), .ref (pd 12), .ref (pd 13)])), (pd 2, .inr (0, [.ref (pe 2), .int (nI 1)])), (pe 2, .inl (cI, n2, .inl f2)), (pd 3, .inr (0, [.ref (pe 3), .int (nI 1)])), (pe 3, .inl (cI, n3, .inl f3)), (pd 11, .inr (0, [.ref (pe 11), .int (nI 1)])), (pe 11, .inl (cI, n11, .inl f11)), (pd 0, .inr (0, [.ref y_3, .int (nI 2)])), (y_3, .inl (cI, y_4, .inl y_5)), (pd 1, .inr (0, [.ref y_8, .int (nI 2)])), (y_8, .inl (cI, y_9, .inl y_10))] H := hP
  have hD : va_D A [(h0, .inr (4, [.ref (pd 0), .ref (pd 1), .ref (pd 2), .ref (pd 3), .ref (pd 4), .ref (pd 5), .ref (pd 6), .ref (pd 7), .ref (pd 8), .ref (pd 9), .ref (pd 10), .ref (pd 11), .ref (pd 12), .ref (pd 13)])), (pd 2, .inr (0, [.ref (pe 2), .int (nI 1)])), (pe 2, .inl (cI, n2, .inl f2)), (pd 3, .inr (0, [.ref (pe 3), .int (nI 1)])), (pe 3, .inl (cI, n3, .inl f3)), (pd 11, .inr (0, [.ref (pe 11), .int (nI 1)])), (pe 11, .inl (cI, n11, .inl f11)), (pd 0, .inr (0, [.ref y_3, .int (nI 2)])), (y_3, .inl (cI, y_4, .inl y_5)), (pd 1, .inr (0, [.ref y_8, .int (nI 2)])), (y_8, .inl (cI, y_9, .inl y_10))] := hD
  refine W.widen (k := 2) (n := 1208) (Nat.le_of_ble_eq_true rfl) (Nat.le_of_ble_eq_true rfl) ?_
  refine lv_aload_n hx hb dX4_addType_36 rfl (lv_at hl 1 rfl) ?_
  refine va_get (D := (dC, dI)) (ci := 4) (v := .ref (pd 2)) (C := RX4) (T := TX4) (N := 14) hx hb hts (fun w h => List.mem_cons_of_mem _ (List.mem_append_left _ (List.mem_append_right _ h))) hown hK hP 0 rfl rfl 2 (by decide) (hts (.fieldLink RX4 21 "PolarTypes$Types" "firsts" "LPolarTypes$Row;") (List.mem_of_getElem? (i := 4) (by decide +kernel))) (fun _ h9 => h9) rfl dX4_addType_37 ?_
  refine lv_iload_n hx hb dX4_addType_40 rfl (lv_at hl 4 rfl) ?_
  have hPc := hP.sub (ws' := [(pd 2, .inr (0, [.ref (pe 2), .int (nI 1)])), (pe 2, .inl (cI, n2, .inl f2))]) [1, 2] rfl
  have hDc := hD.sub (ws' := [(pd 2, .inr (0, [.ref (pe 2), .int (nI 1)])), (pe 2, .inl (cI, n2, .inl f2))]) [1, 2] (by decide) rfl
  have hFc := va_free (wc := [(pd 2, .inr (0, [.ref (pe 2), .int (nI 1)])), (pe 2, .inl (cI, n2, .inl f2))]) hD hS hA [1, 2] rfl
  refine va_callv (va_runV (As := [.int fi]) (rest := []) ⟨hx, hb, hml, hown, hts⟩ (c_Row_add l dC dI cI (pd 2) (pe 2) 1 n2 f2 fi hn2.1 ((by decide)) hn2.2 H.size) (cwV 1 hts gX4_addType_X0_add rfl rfl rfl (by decide +kernel) ⟨Nat.le_of_ble_eq_true rfl, Nat.le_of_ble_eq_true rfl⟩) ⟨fun a U g mk q => by obtain ⟨q0, q1, qP, qK, qD⟩ := q; exact ⟨q0, q1, qP, va_K.moved (u := U) (U := U.calling g mk a) (Vm.Alike.refl U.vm) qK, qD⟩, va_recv hK hPc (ci := 0) (q0 := 0) rfl rfl, fun U hU hW => ⟨rfl, by rw [hU], by rw [hU]; exact hPc, va_K.moved hW.alike hK, hDc.weaken (fun _ _ _ _ => trivial)⟩⟩ rfl rfl hl.1 rfl (lv_room (Nat.le_of_ble_eq_true rfl)) dX4_addType_41 ⟨Nat.le_of_ble_eq_true rfl, Nat.le_of_ble_eq_true rfl⟩) hS (fun q _ h => hFc q h) hFc (fun u t H1 locs ht hvm hw hB hz1 hk1 hS => ?_)
  obtain ⟨y_13, y_14, y_15, p_16, hP1, hK1, hD1⟩ := hB
  rw [ht] at hP1
  obtain ⟨hP, hD⟩ := va_join (wr := [(h0, .inr (4, [.ref (pd 0), .ref (pd 1), .ref (pd 2), .ref (pd 3), .ref (pd 4), .ref (pd 5), .ref (pd 6), .ref (pd 7), .ref (pd 8), .ref (pd 9), .ref (pd 10), .ref (pd 11), .ref (pd 12), .ref (pd 13)])), (pd 3, .inr (0, [.ref (pe 3), .int (nI 1)])), (pe 3, .inl (cI, n3, .inl f3)), (pd 11, .inr (0, [.ref (pe 11), .int (nI 1)])), (pe 11, .inl (cI, n11, .inl f11)), (pd 0, .inr (0, [.ref y_3, .int (nI 2)])), (y_3, .inl (cI, y_4, .inl y_5)), (pd 1, .inr (0, [.ref y_8, .int (nI 2)])), (y_8, .inl (cI, y_9, .inl y_10))]) (w1 := [(pd 2, .inr (0, [.ref y_13, .int (nI 2)])), (y_13, .inl (cI, y_14, .inl y_15))]) hP hD [1, 2] [0, 3, 4, 5, 6, 7, 8, 9, 10] rfl rfl (by decide) (by decide) hk1 hFc hP1 hD1
  generalize H1 = H at hP hS ⊢
  have hP : va_P (dC, dI) vwCl [(h0, .inr (4, [.ref (pd 0), .ref (pd 1), .ref (pd 2), .ref (pd 3), .ref (pd 4), .ref (pd 5), .ref (pd 6), .ref (pd 7), .ref (pd 8), .ref (pd 9), .ref (pd 10), .ref (pd 11), .ref (pd 12), .ref (pd 13)])), (pd 3, .inr (0, [.ref (pe 3), .int (nI 1)])), (pe 3, .inl (cI, n3, .inl f3)), (pd 11, .inr (0, [.ref (pe 11), .int (nI 1)])), (pe 11, .inl (cI, n11, .inl f11)), (pd 0, .inr (0, [.ref y_3, .int (nI 2)])), (y_3, .inl (cI, y_4, .inl y_5)), (pd 1, .inr (0, [.ref y_8, .int (nI 2)])), (y_8, .inl (cI, y_9, .inl y_10)), (pd 2, .inr (0, [.ref y_13, .int (nI 2)])), (y_13, .inl (cI, y_14, .inl y_15))] H := hP
  have hD : va_D A [(h0, .inr (4, [.ref (pd 0), .ref (pd 1), .ref (pd 2), .ref (pd 3), .ref (pd 4), .ref (pd 5), .ref (pd 6), .ref (pd 7), .ref (pd 8), .ref (pd 9), .ref (pd 10), .ref (pd 11), .ref (pd 12), .ref (pd 13)])), (pd 3, .inr (0, [.ref (pe 3), .int (nI 1)])), (pe 3, .inl (cI, n3, .inl f3)), (pd 11, .inr (0, [.ref (pe 11), .int (nI 1)])), (pe 11, .inl (cI, n11, .inl f11)), (pd 0, .inr (0, [.ref y_3, .int (nI 2)])), (y_3, .inl (cI, y_4, .inl y_5)), (pd 1, .inr (0, [.ref y_8, .int (nI 2)])), (y_8, .inl (cI, y_9, .inl y_10)), (pd 2, .inr (0, [.ref y_13, .int (nI 2)])), (y_13, .inl (cI, y_14, .inl y_15))] := hD
  refine W.widen (k := 3) (n := 1812) (Nat.le_of_ble_eq_true rfl) (Nat.le_of_ble_eq_true rfl) ?_
  refine lv_aload_n hx hb dX4_addType_44 rfl (lv_at hl 1 rfl) ?_
  refine va_get (D := (dC, dI)) (ci := 4) (v := .ref (pd 3)) (C := RX4) (T := TX4) (N := 14) hx hb hts (fun w h => List.mem_cons_of_mem _ (List.mem_append_left _ (List.mem_append_right _ h))) hown hK hP 0 rfl rfl 3 (by decide) (hts (.fieldLink RX4 24 "PolarTypes$Types" "seconds" "LPolarTypes$Row;") (List.mem_of_getElem? (i := 5) (by decide +kernel))) (fun _ h9 => h9) rfl dX4_addType_45 ?_
  refine lv_iload hx hb dX4_addType_48 (lv_at hl 5 rfl) ?_
  have hPc := hP.sub (ws' := [(pd 3, .inr (0, [.ref (pe 3), .int (nI 1)])), (pe 3, .inl (cI, n3, .inl f3))]) [1, 2] rfl
  have hDc := hD.sub (ws' := [(pd 3, .inr (0, [.ref (pe 3), .int (nI 1)])), (pe 3, .inl (cI, n3, .inl f3))]) [1, 2] (by decide) rfl
  have hFc := va_free (wc := [(pd 3, .inr (0, [.ref (pe 3), .int (nI 1)])), (pe 3, .inl (cI, n3, .inl f3))]) hD hS hA [1, 2] rfl
  refine va_callv (va_runV (As := [.int se]) (rest := []) ⟨hx, hb, hml, hown, hts⟩ (c_Row_add l dC dI cI (pd 3) (pe 3) 1 n3 f3 se hn3.1 ((by decide)) hn3.2 H.size) (cwV 1 hts gX4_addType_X0_add rfl rfl rfl (by decide +kernel) ⟨Nat.le_of_ble_eq_true rfl, Nat.le_of_ble_eq_true rfl⟩) ⟨fun a U g mk q => by obtain ⟨q0, q1, qP, qK, qD⟩ := q; exact ⟨q0, q1, qP, va_K.moved (u := U) (U := U.calling g mk a) (Vm.Alike.refl U.vm) qK, qD⟩, va_recv hK hPc (ci := 0) (q0 := 0) rfl rfl, fun U hU hW => ⟨rfl, by rw [hU], by rw [hU]; exact hPc, va_K.moved hW.alike hK, hDc.weaken (fun _ _ _ _ => trivial)⟩⟩ rfl rfl hl.1 rfl (lv_room (Nat.le_of_ble_eq_true rfl)) dX4_addType_50 ⟨Nat.le_of_ble_eq_true rfl, Nat.le_of_ble_eq_true rfl⟩) hS (fun q _ h => hFc q h) hFc (fun u t H1 locs ht hvm hw hB hz1 hk1 hS => ?_)
  obtain ⟨y_18, y_19, y_20, p_21, hP1, hK1, hD1⟩ := hB
  rw [ht] at hP1
  obtain ⟨hP, hD⟩ := va_join (wr := [(h0, .inr (4, [.ref (pd 0), .ref (pd 1), .ref (pd 2), .ref (pd 3), .ref (pd 4), .ref (pd 5), .ref (pd 6), .ref (pd 7), .ref (pd 8), .ref (pd 9), .ref (pd 10), .ref (pd 11), .ref (pd 12), .ref (pd 13)])), (pd 11, .inr (0, [.ref (pe 11), .int (nI 1)])), (pe 11, .inl (cI, n11, .inl f11)), (pd 0, .inr (0, [.ref y_3, .int (nI 2)])), (y_3, .inl (cI, y_4, .inl y_5)), (pd 1, .inr (0, [.ref y_8, .int (nI 2)])), (y_8, .inl (cI, y_9, .inl y_10)), (pd 2, .inr (0, [.ref y_13, .int (nI 2)])), (y_13, .inl (cI, y_14, .inl y_15))]) (w1 := [(pd 3, .inr (0, [.ref y_18, .int (nI 2)])), (y_18, .inl (cI, y_19, .inl y_20))]) hP hD [1, 2] [0, 3, 4, 5, 6, 7, 8, 9, 10] rfl rfl (by decide) (by decide) hk1 hFc hP1 hD1
  generalize H1 = H at hP hS ⊢
  have hP : va_P (dC, dI) vwCl [(h0, .inr (4, [.ref (pd 0), .ref (pd 1), .ref (pd 2), .ref (pd 3), .ref (pd 4), .ref (pd 5), .ref (pd 6), .ref (pd 7), .ref (pd 8), .ref (pd 9), .ref (pd 10), .ref (pd 11), .ref (pd 12), .ref (pd 13)])), (pd 11, .inr (0, [.ref (pe 11), .int (nI 1)])), (pe 11, .inl (cI, n11, .inl f11)), (pd 0, .inr (0, [.ref y_3, .int (nI 2)])), (y_3, .inl (cI, y_4, .inl y_5)), (pd 1, .inr (0, [.ref y_8, .int (nI 2)])), (y_8, .inl (cI, y_9, .inl y_10)), (pd 2, .inr (0, [.ref y_13, .int (nI 2)])), (y_13, .inl (cI, y_14, .inl y_15)), (pd 3, .inr (0, [.ref y_18, .int (nI 2)])), (y_18, .inl (cI, y_19, .inl y_20))] H := hP
  have hD : va_D A [(h0, .inr (4, [.ref (pd 0), .ref (pd 1), .ref (pd 2), .ref (pd 3), .ref (pd 4), .ref (pd 5), .ref (pd 6), .ref (pd 7), .ref (pd 8), .ref (pd 9), .ref (pd 10), .ref (pd 11), .ref (pd 12), .ref (pd 13)])), (pd 11, .inr (0, [.ref (pe 11), .int (nI 1)])), (pe 11, .inl (cI, n11, .inl f11)), (pd 0, .inr (0, [.ref y_3, .int (nI 2)])), (y_3, .inl (cI, y_4, .inl y_5)), (pd 1, .inr (0, [.ref y_8, .int (nI 2)])), (y_8, .inl (cI, y_9, .inl y_10)), (pd 2, .inr (0, [.ref y_13, .int (nI 2)])), (y_13, .inl (cI, y_14, .inl y_15)), (pd 3, .inr (0, [.ref y_18, .int (nI 2)])), (y_18, .inl (cI, y_19, .inl y_20))] := hD
  refine W.widen (k := 4) (n := 2416) (Nat.le_of_ble_eq_true rfl) (Nat.le_of_ble_eq_true rfl) ?_
  refine lv_aload_n hx hb dX4_addType_53 rfl (lv_at hl 1 rfl) ?_
  refine va_get (D := (dC, dI)) (ci := 4) (v := .ref (pd 11)) (C := RX4) (T := TX4) (N := 14) hx hb hts (fun w h => List.mem_cons_of_mem _ (List.mem_append_left _ (List.mem_append_right _ h))) hown hK hP 0 rfl rfl 11 (by decide) (hts (.fieldLink RX4 49 "PolarTypes$Types" "lastAsked" "LPolarTypes$Row;") (List.mem_of_getElem? (i := 6) (by decide +kernel))) (fun _ h9 => h9) rfl dX4_addType_54 ?_
  refine lv_bipush (v := (-9)) hx hb dX4_addType_57 (by decide) ?_
  have hPc := hP.sub (ws' := [(pd 11, .inr (0, [.ref (pe 11), .int (nI 1)])), (pe 11, .inl (cI, n11, .inl f11))]) [1, 2] rfl
  have hDc := hD.sub (ws' := [(pd 11, .inr (0, [.ref (pe 11), .int (nI 1)])), (pe 11, .inl (cI, n11, .inl f11))]) [1, 2] (by decide) rfl
  have hFc := va_free (wc := [(pd 11, .inr (0, [.ref (pe 11), .int (nI 1)])), (pe 11, .inl (cI, n11, .inl f11))]) hD hS hA [1, 2] rfl
  refine va_callv (va_runV (As := [.int ((-9))]) (rest := []) ⟨hx, hb, hml, hown, hts⟩ (c_Row_add l dC dI cI (pd 11) (pe 11) 1 n11 f11 ((-9)) hn11.1 ((by decide)) hn11.2 H.size) (cwV 1 hts gX4_addType_X0_add rfl rfl rfl (by decide +kernel) ⟨Nat.le_of_ble_eq_true rfl, Nat.le_of_ble_eq_true rfl⟩) ⟨fun a U g mk q => by obtain ⟨q0, q1, qP, qK, qD⟩ := q; exact ⟨q0, q1, qP, va_K.moved (u := U) (U := U.calling g mk a) (Vm.Alike.refl U.vm) qK, qD⟩, va_recv hK hPc (ci := 0) (q0 := 0) rfl rfl, fun U hU hW => ⟨rfl, by rw [hU], by rw [hU]; exact hPc, va_K.moved hW.alike hK, hDc.weaken (fun _ _ _ _ => trivial)⟩⟩ rfl rfl hl.1 rfl (lv_room (Nat.le_of_ble_eq_true rfl)) dX4_addType_59 ⟨Nat.le_of_ble_eq_true rfl, Nat.le_of_ble_eq_true rfl⟩) hS (fun q _ h => hFc q h) hFc (fun u t H1 locs ht hvm hw hB hz1 hk1 hS => ?_)
  obtain ⟨y_23, y_24, y_25, p_26, hP1, hK1, hD1⟩ := hB
  rw [ht] at hP1
  obtain ⟨hP, hD⟩ := va_join (wr := [(h0, .inr (4, [.ref (pd 0), .ref (pd 1), .ref (pd 2), .ref (pd 3), .ref (pd 4), .ref (pd 5), .ref (pd 6), .ref (pd 7), .ref (pd 8), .ref (pd 9), .ref (pd 10), .ref (pd 11), .ref (pd 12), .ref (pd 13)])), (pd 0, .inr (0, [.ref y_3, .int (nI 2)])), (y_3, .inl (cI, y_4, .inl y_5)), (pd 1, .inr (0, [.ref y_8, .int (nI 2)])), (y_8, .inl (cI, y_9, .inl y_10)), (pd 2, .inr (0, [.ref y_13, .int (nI 2)])), (y_13, .inl (cI, y_14, .inl y_15)), (pd 3, .inr (0, [.ref y_18, .int (nI 2)])), (y_18, .inl (cI, y_19, .inl y_20))]) (w1 := [(pd 11, .inr (0, [.ref y_23, .int (nI 2)])), (y_23, .inl (cI, y_24, .inl y_25))]) hP hD [1, 2] [0, 3, 4, 5, 6, 7, 8, 9, 10] rfl rfl (by decide) (by decide) hk1 hFc hP1 hD1
  generalize H1 = H at hP hS ⊢
  have hP : va_P (dC, dI) vwCl [(h0, .inr (4, [.ref (pd 0), .ref (pd 1), .ref (pd 2), .ref (pd 3), .ref (pd 4), .ref (pd 5), .ref (pd 6), .ref (pd 7), .ref (pd 8), .ref (pd 9), .ref (pd 10), .ref (pd 11), .ref (pd 12), .ref (pd 13)])), (pd 0, .inr (0, [.ref y_3, .int (nI 2)])), (y_3, .inl (cI, y_4, .inl y_5)), (pd 1, .inr (0, [.ref y_8, .int (nI 2)])), (y_8, .inl (cI, y_9, .inl y_10)), (pd 2, .inr (0, [.ref y_13, .int (nI 2)])), (y_13, .inl (cI, y_14, .inl y_15)), (pd 3, .inr (0, [.ref y_18, .int (nI 2)])), (y_18, .inl (cI, y_19, .inl y_20)), (pd 11, .inr (0, [.ref y_23, .int (nI 2)])), (y_23, .inl (cI, y_24, .inl y_25))] H := hP
  have hD : va_D A [(h0, .inr (4, [.ref (pd 0), .ref (pd 1), .ref (pd 2), .ref (pd 3), .ref (pd 4), .ref (pd 5), .ref (pd 6), .ref (pd 7), .ref (pd 8), .ref (pd 9), .ref (pd 10), .ref (pd 11), .ref (pd 12), .ref (pd 13)])), (pd 0, .inr (0, [.ref y_3, .int (nI 2)])), (y_3, .inl (cI, y_4, .inl y_5)), (pd 1, .inr (0, [.ref y_8, .int (nI 2)])), (y_8, .inl (cI, y_9, .inl y_10)), (pd 2, .inr (0, [.ref y_13, .int (nI 2)])), (y_13, .inl (cI, y_14, .inl y_15)), (pd 3, .inr (0, [.ref y_18, .int (nI 2)])), (y_18, .inl (cI, y_19, .inl y_20)), (pd 11, .inr (0, [.ref y_23, .int (nI 2)])), (y_23, .inl (cI, y_24, .inl y_25))] := hD
  refine W.widen (k := 5) (n := 3020) (Nat.le_of_ble_eq_true rfl) (Nat.le_of_ble_eq_true rfl) ?_
  refine lv_iload hx hb dX4_addType_62 (lv_at hl 0 rfl) ?_
  have hP9 := hP.sub (ws' := [(h0, .inr (4, [.ref (pd 0), .ref (pd 1), .ref (pd 2), .ref (pd 3), .ref (pd 4), .ref (pd 5), .ref (pd 6), .ref (pd 7), .ref (pd 8), .ref (pd 9), .ref (pd 10), .ref (pd 11), .ref (pd 12), .ref (pd 13)])), (pd 0, .inr (0, [.ref y_3, .int (nI 2)])), (y_3, .inl (cI, y_4, .inl y_5)), (pd 1, .inr (0, [.ref y_8, .int (nI 2)])), (y_8, .inl (cI, y_9, .inl y_10)), (pd 2, .inr (0, [.ref y_13, .int (nI 2)])), (y_13, .inl (cI, y_14, .inl y_15)), (pd 3, .inr (0, [.ref y_18, .int (nI 2)])), (y_18, .inl (cI, y_19, .inl y_20)), (pd 11, .inr (0, [.ref y_23, .int (nI 2)])), (y_23, .inl (cI, y_24, .inl y_25))]) [0, 1, 2, 3, 4, 5, 6, 7, 8, 9, 10] rfl
  have hD9 := hD.sub (ws' := [(h0, .inr (4, [.ref (pd 0), .ref (pd 1), .ref (pd 2), .ref (pd 3), .ref (pd 4), .ref (pd 5), .ref (pd 6), .ref (pd 7), .ref (pd 8), .ref (pd 9), .ref (pd 10), .ref (pd 11), .ref (pd 12), .ref (pd 13)])), (pd 0, .inr (0, [.ref y_3, .int (nI 2)])), (y_3, .inl (cI, y_4, .inl y_5)), (pd 1, .inr (0, [.ref y_8, .int (nI 2)])), (y_8, .inl (cI, y_9, .inl y_10)), (pd 2, .inr (0, [.ref y_13, .int (nI 2)])), (y_13, .inl (cI, y_14, .inl y_15)), (pd 3, .inr (0, [.ref y_18, .int (nI 2)])), (y_18, .inl (cI, y_19, .inl y_20)), (pd 11, .inr (0, [.ref y_23, .int (nI 2)])), (y_23, .inl (cI, y_24, .inl y_25))]) [0, 1, 2, 3, 4, 5, 6, 7, 8, 9, 10] (by decide) rfl
  refine W.widen (k := 5) (n := 3020) (Nat.le_of_ble_eq_true rfl) (Nat.le_of_ble_eq_true rfl) ?_
  exact W.iret (v := nI 1) hx hb hr (fun t ht hW => ⟨⟨nI 1, (), rfl, rfl, y_3, y_8, y_13, y_18, y_23, y_4, y_9, y_14, y_19, y_24, y_5, y_10, y_15, y_20, y_25, ⟨p_6.1, p_6.2.1⟩, ⟨p_11.1, p_11.2.1⟩, ⟨p_16.1, p_16.2.1⟩, ⟨p_21.1, p_21.2.1⟩, ⟨p_26.1, p_26.2.1⟩, by rw [ht]; exact hP9, va_K.moved hW.alike hK, hD9⟩, hS.F ht⟩) hS.2.2 dX4_addType_64
end
section
set_option maxHeartbeats 4000000 in
set_option maxRecDepth 100000 in
/-- startAnew of a fresh Types: the two first types -/
theorem c_startAnew0 (l : Launch) (dC : Nat → ClassId) (dI : Nat → Nat → Nat) (cI : ClassId) (h0 : Nat) (pd : Nat → Nat) (pe : Nat → Nat) (sz : Nat) : Met l yX4_startAnew wsX4_startAnew ({ frames := 4, cells := 10, slots := 6040, locals := 128 }) (va_Pc [.ref h0] (fun U => U.heap.size = sz ∧ va_P (dC, dI) vwCl [(h0, .inr (4, [.ref (pd 0), .ref (pd 1), .ref (pd 2), .ref (pd 3), .ref (pd 4), .ref (pd 5), .ref (pd 6), .ref (pd 7), .ref (pd 8), .ref (pd 9), .ref (pd 10), .ref (pd 11), .ref (pd 12), .ref (pd 13)])), (pd 0, .inr (0, [.ref (pe 0), .int (nI 0)])), (pd 1, .inr (0, [.ref (pe 1), .int (nI 0)])), (pd 2, .inr (0, [.ref (pe 2), .int (nI 0)])), (pd 3, .inr (0, [.ref (pe 3), .int (nI 0)])), (pd 4, .inr (0, [.ref (pe 4), .int (nI 0)])), (pd 5, .inr (0, [.ref (pe 5), .int (nI 0)])), (pd 6, .inr (0, [.ref (pe 6), .int (nI 0)])), (pd 7, .inr (0, [.ref (pe 7), .int (nI 0)])), (pd 8, .inr (0, [.ref (pe 8), .int (nI 0)])), (pd 11, .inr (0, [.ref (pe 11), .int (nI 0)])), (pd 12, .inr (0, [.ref (pe 12), .int (nI 0)])), (pd 13, .inr (0, [.ref (pe 13), .int (nI 0)])), (pe 0, .inl (cI, 4, .inl (fun _ => 0))), (pe 1, .inl (cI, 4, .inl (fun _ => 0))), (pe 2, .inl (cI, 4, .inl (fun _ => 0))), (pe 3, .inl (cI, 4, .inl (fun _ => 0))), (pe 11, .inl (cI, 4, .inl (fun _ => 0)))] U.heap ∧ va_K (dC, dI) vwCl [(cI, .int)] U ∧ va_D (fun _ => True) [(h0, .inr (4, [.ref (pd 0), .ref (pd 1), .ref (pd 2), .ref (pd 3), .ref (pd 4), .ref (pd 5), .ref (pd 6), .ref (pd 7), .ref (pd 8), .ref (pd 9), .ref (pd 10), .ref (pd 11), .ref (pd 12), .ref (pd 13)])), (pd 0, .inr (0, [.ref (pe 0), .int (nI 0)])), (pd 1, .inr (0, [.ref (pe 1), .int (nI 0)])), (pd 2, .inr (0, [.ref (pe 2), .int (nI 0)])), (pd 3, .inr (0, [.ref (pe 3), .int (nI 0)])), (pd 4, .inr (0, [.ref (pe 4), .int (nI 0)])), (pd 5, .inr (0, [.ref (pe 5), .int (nI 0)])), (pd 6, .inr (0, [.ref (pe 6), .int (nI 0)])), (pd 7, .inr (0, [.ref (pe 7), .int (nI 0)])), (pd 8, .inr (0, [.ref (pe 8), .int (nI 0)])), (pd 11, .inr (0, [.ref (pe 11), .int (nI 0)])), (pd 12, .inr (0, [.ref (pe 12), .int (nI 0)])), (pd 13, .inr (0, [.ref (pe 13), .int (nI 0)])), (pe 0, .inl (cI, 4, .inl (fun _ => 0))), (pe 1, .inl (cI, 4, .inl (fun _ => 0))), (pe 2, .inl (cI, 4, .inl (fun _ => 0))), (pe 3, .inl (cI, 4, .inl (fun _ => 0))), (pe 11, .inl (cI, 4, .inl (fun _ => 0)))])) (va_Qv (fun (_ : Unit) => True) (fun (_ : Unit) (t : State) => va_P (dC, dI) vwCl [(h0, .inr (4, [.ref (pd 0), .ref (pd 1), .ref (pd 2), .ref (pd 3), .ref (pd 4), .ref (pd 5), .ref (pd 6), .ref (pd 7), .ref (pd 8), .ref (pd 9), .ref (pd 10), .ref (pd 11), .ref (pd 12), .ref (pd 13)])), (pd 8, .inr (0, [.ref (pe 8), .int (nI 0)]))] t.heap ∧ va_K (dC, dI) vwCl [(cI, .int)] t ∧ va_D (va_A [(h0, .inr (4, [.ref (pd 0), .ref (pd 1), .ref (pd 2), .ref (pd 3), .ref (pd 4), .ref (pd 5), .ref (pd 6), .ref (pd 7), .ref (pd 8), .ref (pd 9), .ref (pd 10), .ref (pd 11), .ref (pd 12), .ref (pd 13)])), (pd 0, .inr (0, [.ref (pe 0), .int (nI 0)])), (pd 1, .inr (0, [.ref (pe 1), .int (nI 0)])), (pd 2, .inr (0, [.ref (pe 2), .int (nI 0)])), (pd 3, .inr (0, [.ref (pe 3), .int (nI 0)])), (pd 4, .inr (0, [.ref (pe 4), .int (nI 0)])), (pd 5, .inr (0, [.ref (pe 5), .int (nI 0)])), (pd 6, .inr (0, [.ref (pe 6), .int (nI 0)])), (pd 7, .inr (0, [.ref (pe 7), .int (nI 0)])), (pd 8, .inr (0, [.ref (pe 8), .int (nI 0)])), (pd 11, .inr (0, [.ref (pe 11), .int (nI 0)])), (pd 12, .inr (0, [.ref (pe 12), .int (nI 0)])), (pd 13, .inr (0, [.ref (pe 13), .int (nI 0)])), (pe 0, .inl (cI, 4, .inl (fun _ => 0))), (pe 1, .inl (cI, 4, .inl (fun _ => 0))), (pe 2, .inl (cI, 4, .inl (fun _ => 0))), (pe 3, .inl (cI, 4, .inl (fun _ => 0))), (pe 11, .inl (cI, 4, .inl (fun _ => 0)))] sz) [(h0, .inr (4, [.ref (pd 0), .ref (pd 1), .ref (pd 2), .ref (pd 3), .ref (pd 4), .ref (pd 5), .ref (pd 6), .ref (pd 7), .ref (pd 8), .ref (pd 9), .ref (pd 10), .ref (pd 11), .ref (pd 12), .ref (pd 13)])), (pd 8, .inr (0, [.ref (pe 8), .int (nI 0)]))]) (va_A [(h0, .inr (4, [.ref (pd 0), .ref (pd 1), .ref (pd 2), .ref (pd 3), .ref (pd 4), .ref (pd 5), .ref (pd 6), .ref (pd 7), .ref (pd 8), .ref (pd 9), .ref (pd 10), .ref (pd 11), .ref (pd 12), .ref (pd 13)])), (pd 0, .inr (0, [.ref (pe 0), .int (nI 0)])), (pd 1, .inr (0, [.ref (pe 1), .int (nI 0)])), (pd 2, .inr (0, [.ref (pe 2), .int (nI 0)])), (pd 3, .inr (0, [.ref (pe 3), .int (nI 0)])), (pd 4, .inr (0, [.ref (pe 4), .int (nI 0)])), (pd 5, .inr (0, [.ref (pe 5), .int (nI 0)])), (pd 6, .inr (0, [.ref (pe 6), .int (nI 0)])), (pd 7, .inr (0, [.ref (pe 7), .int (nI 0)])), (pd 8, .inr (0, [.ref (pe 8), .int (nI 0)])), (pd 11, .inr (0, [.ref (pe 11), .int (nI 0)])), (pd 12, .inr (0, [.ref (pe 12), .int (nI 0)])), (pd 13, .inr (0, [.ref (pe 13), .int (nI 0)])), (pe 0, .inl (cI, 4, .inl (fun _ => 0))), (pe 1, .inl (cI, 4, .inl (fun _ => 0))), (pe 2, .inl (cI, 4, .inl (fun _ => 0))), (pe 3, .inl (cI, 4, .inl (fun _ => 0))), (pe 11, .inl (cI, 4, .inl (fun _ => 0)))] sz)) 10 6040 (va_A [(h0, .inr (4, [.ref (pd 0), .ref (pd 1), .ref (pd 2), .ref (pd 3), .ref (pd 4), .ref (pd 5), .ref (pd 6), .ref (pd 7), .ref (pd 8), .ref (pd 9), .ref (pd 10), .ref (pd 11), .ref (pd 12), .ref (pd 13)])), (pd 0, .inr (0, [.ref (pe 0), .int (nI 0)])), (pd 1, .inr (0, [.ref (pe 1), .int (nI 0)])), (pd 2, .inr (0, [.ref (pe 2), .int (nI 0)])), (pd 3, .inr (0, [.ref (pe 3), .int (nI 0)])), (pd 4, .inr (0, [.ref (pe 4), .int (nI 0)])), (pd 5, .inr (0, [.ref (pe 5), .int (nI 0)])), (pd 6, .inr (0, [.ref (pe 6), .int (nI 0)])), (pd 7, .inr (0, [.ref (pe 7), .int (nI 0)])), (pd 8, .inr (0, [.ref (pe 8), .int (nI 0)])), (pd 11, .inr (0, [.ref (pe 11), .int (nI 0)])), (pd 12, .inr (0, [.ref (pe 12), .int (nI 0)])), (pd 13, .inr (0, [.ref (pe 13), .int (nI 0)])), (pe 0, .inl (cI, 4, .inl (fun _ => 0))), (pe 1, .inl (cI, 4, .inl (fun _ => 0))), (pe 2, .inl (cI, 4, .inl (fun _ => 0))), (pe 3, .inl (cI, 4, .inl (fun _ => 0))), (pe 11, .inl (cI, 4, .inl (fun _ => 0)))] sz) := by
  refine Met.ofW (cc := cX4_startAnew) (maxL := 1) (ret := none) (by decide) rfl ?_
  intro p e s m args below meth c s₁ B hml hv
  obtain ⟨rfl, hsz, hP, hK, hD0⟩ := hv
  have hx := B.exec
  have hb := B.bytes
  have hr := B.returns
  have hts := atoms_spec (ws := wsX4_startAnew) B.pre
  have hown : s.vm.findClass RX4 = some m.cls := findClass_of_methodNamed B.named
  have hlocks := B.notSynchronized
  subst hsz
  have hD := hD0.self (sz := s.heap.size)
  generalize hAe : va_A [(h0, .inr (4, [.ref (pd 0), .ref (pd 1), .ref (pd 2), .ref (pd 3), .ref (pd 4), .ref (pd 5), .ref (pd 6), .ref (pd 7), .ref (pd 8), .ref (pd 9), .ref (pd 10), .ref (pd 11), .ref (pd 12), .ref (pd 13)])), (pd 0, .inr (0, [.ref (pe 0), .int (nI 0)])), (pd 1, .inr (0, [.ref (pe 1), .int (nI 0)])), (pd 2, .inr (0, [.ref (pe 2), .int (nI 0)])), (pd 3, .inr (0, [.ref (pe 3), .int (nI 0)])), (pd 4, .inr (0, [.ref (pe 4), .int (nI 0)])), (pd 5, .inr (0, [.ref (pe 5), .int (nI 0)])), (pd 6, .inr (0, [.ref (pe 6), .int (nI 0)])), (pd 7, .inr (0, [.ref (pe 7), .int (nI 0)])), (pd 8, .inr (0, [.ref (pe 8), .int (nI 0)])), (pd 11, .inr (0, [.ref (pe 11), .int (nI 0)])), (pd 12, .inr (0, [.ref (pe 12), .int (nI 0)])), (pd 13, .inr (0, [.ref (pe 13), .int (nI 0)])), (pe 0, .inl (cI, 4, .inl (fun _ => 0))), (pe 1, .inl (cI, 4, .inl (fun _ => 0))), (pe 2, .inl (cI, 4, .inl (fun _ => 0))), (pe 3, .inl (cI, 4, .inl (fun _ => 0))), (pe 11, .inl (cI, 4, .inl (fun _ => 0)))] s.heap.size = A at hD ⊢
  have hA : ∀ q : Nat, s.heap.size ≤ q → A q := fun q h => by rw [← hAe]; exact Or.inr h
  have hS : va_S A s.heap s.heap [] := va_S.rf
  have hP : va_P (dC, dI) vwCl [(h0, .inr (4, [.ref (pd 0), .ref (pd 1), .ref (pd 2), .ref (pd 3), .ref (pd 4), .ref (pd 5), .ref (pd 6), .ref (pd 7), .ref (pd 8), .ref (pd 9), .ref (pd 10), .ref (pd 11), .ref (pd 12), .ref (pd 13)])), (pd 0, .inr (0, [.ref (pe 0), .int (nI 0)])), (pd 1, .inr (0, [.ref (pe 1), .int (nI 0)])), (pd 2, .inr (0, [.ref (pe 2), .int (nI 0)])), (pd 3, .inr (0, [.ref (pe 3), .int (nI 0)])), (pd 4, .inr (0, [.ref (pe 4), .int (nI 0)])), (pd 5, .inr (0, [.ref (pe 5), .int (nI 0)])), (pd 6, .inr (0, [.ref (pe 6), .int (nI 0)])), (pd 7, .inr (0, [.ref (pe 7), .int (nI 0)])), (pd 8, .inr (0, [.ref (pe 8), .int (nI 0)])), (pd 11, .inr (0, [.ref (pe 11), .int (nI 0)])), (pd 12, .inr (0, [.ref (pe 12), .int (nI 0)])), (pd 13, .inr (0, [.ref (pe 13), .int (nI 0)])), (pe 0, .inl (cI, 4, .inl (fun _ => 0))), (pe 1, .inl (cI, 4, .inl (fun _ => 0))), (pe 2, .inl (cI, 4, .inl (fun _ => 0))), (pe 3, .inl (cI, 4, .inl (fun _ => 0))), (pe 11, .inl (cI, 4, .inl (fun _ => 0)))] s.heap := hP
  have hl := lv_entry ([.ref h0]) (n := 1) (Nat.le_of_ble_eq_true rfl)
  rw [lg_entry_eq]
  generalize (lg_sl ([.ref h0]) ++ List.replicate (1 - (lg_sl ([.ref h0])).length) Slot.unset).toArray = ls at hl ⊢
  have hl : lv_has ls 1 [(0, .ref h0)] := hl
  obtain ⟨H, hHe⟩ : ∃ H : Heap, H = s.heap := ⟨_, rfl⟩
  rw [← hHe] at hP ⊢
  have hS : va_S A s.heap H [] := by rw [hHe]; exact va_S.rf
  refine lv_aload_n hx hb dX4_startAnew_0 rfl (lv_at hl 0 rfl) ?_
  refine va_get (D := (dC, dI)) (ci := 4) (v := .ref (pd 0)) (C := RX4) (T := TX4) (N := 14) hx hb hts (fun w h => List.mem_cons_of_mem _ (List.mem_append_left _ (List.mem_append_right _ h))) hown hK hP 0 rfl rfl 0 (by decide) (hts (.fieldLink RX4 12 "PolarTypes$Types" "sorts" "LPolarTypes$Row;") (List.mem_of_getElem? (i := 1) (by decide +kernel))) (fun _ h9 => h9) rfl dX4_startAnew_1 ?_
  refine lv_iconst (v := 0) hx hb dX4_startAnew_4 (by decide) ?_
  have hPc := hP.sub (ws' := [(pd 0, .inr (0, [.ref (pe 0), .int (nI 0)]))]) [1] rfl
  have hDc := hD.sub (ws' := [(pd 0, .inr (0, [.ref (pe 0), .int (nI 0)]))]) [1] (by decide) rfl
  have hFc := va_free (wc := [(pd 0, .inr (0, [.ref (pe 0), .int (nI 0)]))]) hD hS hA [1] rfl
  refine va_callv (va_runV (As := [.int 0]) (rest := []) ⟨hx, hb, hml, hown, hts⟩ (c_Row_cut0 l dC dI cI (pd 0) (pe 0) H.size) (cwV 1 hts gX4_startAnew_X0_cutTo rfl rfl rfl (by decide +kernel) ⟨Nat.le_of_ble_eq_true rfl, Nat.le_of_ble_eq_true rfl⟩) ⟨fun a U g mk q => by obtain ⟨q0, q1, qP, qK, qD⟩ := q; exact ⟨q0, q1, qP, va_K.moved (u := U) (U := U.calling g mk a) (Vm.Alike.refl U.vm) qK, qD⟩, va_recv hK hPc (ci := 0) (q0 := 0) rfl rfl, fun U hU hW => ⟨rfl, by rw [hU], by rw [hU]; exact hPc, va_K.moved hW.alike hK, hDc.weaken (fun _ _ _ _ => trivial)⟩⟩ rfl rfl hl.1 rfl (lv_room (Nat.le_of_ble_eq_true rfl)) dX4_startAnew_5 ⟨Nat.le_of_ble_eq_true rfl, Nat.le_of_ble_eq_true rfl⟩) hS (fun q _ h => hFc q h) hFc (fun u t H1 locs ht hvm hw hB hz1 hk1 hS => ?_)
  obtain ⟨hP1, hK1, hD1⟩ := hB
  rw [ht] at hP1
  obtain ⟨hP, hD⟩ := va_join (wr := [(h0, .inr (4, [.ref (pd 0), .ref (pd 1), .ref (pd 2), .ref (pd 3), .ref (pd 4), .ref (pd 5), .ref (pd 6), .ref (pd 7), .ref (pd 8), .ref (pd 9), .ref (pd 10), .ref (pd 11), .ref (pd 12), .ref (pd 13)])), (pd 1, .inr (0, [.ref (pe 1), .int (nI 0)])), (pd 2, .inr (0, [.ref (pe 2), .int (nI 0)])), (pd 3, .inr (0, [.ref (pe 3), .int (nI 0)])), (pd 4, .inr (0, [.ref (pe 4), .int (nI 0)])), (pd 5, .inr (0, [.ref (pe 5), .int (nI 0)])), (pd 6, .inr (0, [.ref (pe 6), .int (nI 0)])), (pd 7, .inr (0, [.ref (pe 7), .int (nI 0)])), (pd 8, .inr (0, [.ref (pe 8), .int (nI 0)])), (pd 11, .inr (0, [.ref (pe 11), .int (nI 0)])), (pd 12, .inr (0, [.ref (pe 12), .int (nI 0)])), (pd 13, .inr (0, [.ref (pe 13), .int (nI 0)])), (pe 0, .inl (cI, 4, .inl (fun _ => 0))), (pe 1, .inl (cI, 4, .inl (fun _ => 0))), (pe 2, .inl (cI, 4, .inl (fun _ => 0))), (pe 3, .inl (cI, 4, .inl (fun _ => 0))), (pe 11, .inl (cI, 4, .inl (fun _ => 0)))]) (w1 := [(pd 0, .inr (0, [.ref (pe 0), .int (nI 0)]))]) hP hD [1] [0, 2, 3, 4, 5, 6, 7, 8, 9, 10, 11, 12, 13, 14, 15, 16, 17] rfl rfl (by decide) (by decide) hk1 hFc hP1 hD1
  generalize H1 = H at hP hS ⊢
  have hP : va_P (dC, dI) vwCl [(h0, .inr (4, [.ref (pd 0), .ref (pd 1), .ref (pd 2), .ref (pd 3), .ref (pd 4), .ref (pd 5), .ref (pd 6), .ref (pd 7), .ref (pd 8), .ref (pd 9), .ref (pd 10), .ref (pd 11), .ref (pd 12), .ref (pd 13)])), (pd 1, .inr (0, [.ref (pe 1), .int (nI 0)])), (pd 2, .inr (0, [.ref (pe 2), .int (nI 0)])), (pd 3, .inr (0, [.ref (pe 3), .int (nI 0)])), (pd 4, .inr (0, [.ref (pe 4), .int (nI 0)])), (pd 5, .inr (0, [.ref (pe 5), .int (nI 0)])), (pd 6, .inr (0, [.ref (pe 6), .int (nI 0)])), (pd 7, .inr (0, [.ref (pe 7), .int (nI 0)])), (pd 8, .inr (0, [.ref (pe 8), .int (nI 0)])), (pd 11, .inr (0, [.ref (pe 11), .int (nI 0)])), (pd 12, .inr (0, [.ref (pe 12), .int (nI 0)])), (pd 13, .inr (0, [.ref (pe 13), .int (nI 0)])), (pe 0, .inl (cI, 4, .inl (fun _ => 0))), (pe 1, .inl (cI, 4, .inl (fun _ => 0))), (pe 2, .inl (cI, 4, .inl (fun _ => 0))), (pe 3, .inl (cI, 4, .inl (fun _ => 0))), (pe 11, .inl (cI, 4, .inl (fun _ => 0))), (pd 0, .inr (0, [.ref (pe 0), .int (nI 0)]))] H := hP
  have hD : va_D A [(h0, .inr (4, [.ref (pd 0), .ref (pd 1), .ref (pd 2), .ref (pd 3), .ref (pd 4), .ref (pd 5), .ref (pd 6), .ref (pd 7), .ref (pd 8), .ref (pd 9), .ref (pd 10), .ref (pd 11), .ref (pd 12), .ref (pd 13)])), (pd 1, .inr (0, [.ref (pe 1), .int (nI 0)])), (pd 2, .inr (0, [.ref (pe 2), .int (nI 0)])), (pd 3, .inr (0, [.ref (pe 3), .int (nI 0)])), (pd 4, .inr (0, [.ref (pe 4), .int (nI 0)])), (pd 5, .inr (0, [.ref (pe 5), .int (nI 0)])), (pd 6, .inr (0, [.ref (pe 6), .int (nI 0)])), (pd 7, .inr (0, [.ref (pe 7), .int (nI 0)])), (pd 8, .inr (0, [.ref (pe 8), .int (nI 0)])), (pd 11, .inr (0, [.ref (pe 11), .int (nI 0)])), (pd 12, .inr (0, [.ref (pe 12), .int (nI 0)])), (pd 13, .inr (0, [.ref (pe 13), .int (nI 0)])), (pe 0, .inl (cI, 4, .inl (fun _ => 0))), (pe 1, .inl (cI, 4, .inl (fun _ => 0))), (pe 2, .inl (cI, 4, .inl (fun _ => 0))), (pe 3, .inl (cI, 4, .inl (fun _ => 0))), (pe 11, .inl (cI, 4, .inl (fun _ => 0))), (pd 0, .inr (0, [.ref (pe 0), .int (nI 0)]))] := hD
  refine W.widen (k := 0) (n := 0) (Nat.le_of_ble_eq_true rfl) (Nat.le_of_ble_eq_true rfl) ?_
  refine lv_aload_n hx hb dX4_startAnew_8 rfl (lv_at hl 0 rfl) ?_
  refine va_get (D := (dC, dI)) (ci := 4) (v := .ref (pd 1)) (C := RX4) (T := TX4) (N := 14) hx hb hts (fun w h => List.mem_cons_of_mem _ (List.mem_append_left _ (List.mem_append_right _ h))) hown hK hP 0 rfl rfl 1 (by decide) (hts (.fieldLink RX4 18 "PolarTypes$Types" "levels" "LPolarTypes$Row;") (List.mem_of_getElem? (i := 2) (by decide +kernel))) (fun _ h9 => h9) rfl dX4_startAnew_9 ?_
  refine lv_iconst (v := 0) hx hb dX4_startAnew_12 (by decide) ?_
  have hPc := hP.sub (ws' := [(pd 1, .inr (0, [.ref (pe 1), .int (nI 0)]))]) [1] rfl
  have hDc := hD.sub (ws' := [(pd 1, .inr (0, [.ref (pe 1), .int (nI 0)]))]) [1] (by decide) rfl
  have hFc := va_free (wc := [(pd 1, .inr (0, [.ref (pe 1), .int (nI 0)]))]) hD hS hA [1] rfl
  refine va_callv (va_runV (As := [.int 0]) (rest := []) ⟨hx, hb, hml, hown, hts⟩ (c_Row_cut0 l dC dI cI (pd 1) (pe 1) H.size) (cwV 1 hts gX4_startAnew_X0_cutTo rfl rfl rfl (by decide +kernel) ⟨Nat.le_of_ble_eq_true rfl, Nat.le_of_ble_eq_true rfl⟩) ⟨fun a U g mk q => by obtain ⟨q0, q1, qP, qK, qD⟩ := q; exact ⟨q0, q1, qP, va_K.moved (u := U) (U := U.calling g mk a) (Vm.Alike.refl U.vm) qK, qD⟩, va_recv hK hPc (ci := 0) (q0 := 0) rfl rfl, fun U hU hW => ⟨rfl, by rw [hU], by rw [hU]; exact hPc, va_K.moved hW.alike hK, hDc.weaken (fun _ _ _ _ => trivial)⟩⟩ rfl rfl hl.1 rfl (lv_room (Nat.le_of_ble_eq_true rfl)) dX4_startAnew_13 ⟨Nat.le_of_ble_eq_true rfl, Nat.le_of_ble_eq_true rfl⟩) hS (fun q _ h => hFc q h) hFc (fun u t H1 locs ht hvm hw hB hz1 hk1 hS => ?_)
  obtain ⟨hP1, hK1, hD1⟩ := hB
  rw [ht] at hP1
  obtain ⟨hP, hD⟩ := va_join (wr := [(h0, .inr (4, [.ref (pd 0), .ref (pd 1), .ref (pd 2), .ref (pd 3), .ref (pd 4), .ref (pd 5), .ref (pd 6), .ref (pd 7), .ref (pd 8), .ref (pd 9), .ref (pd 10), .ref (pd 11), .ref (pd 12), .ref (pd 13)])), (pd 2, .inr (0, [.ref (pe 2), .int (nI 0)])), (pd 3, .inr (0, [.ref (pe 3), .int (nI 0)])), (pd 4, .inr (0, [.ref (pe 4), .int (nI 0)])), (pd 5, .inr (0, [.ref (pe 5), .int (nI 0)])), (pd 6, .inr (0, [.ref (pe 6), .int (nI 0)])), (pd 7, .inr (0, [.ref (pe 7), .int (nI 0)])), (pd 8, .inr (0, [.ref (pe 8), .int (nI 0)])), (pd 11, .inr (0, [.ref (pe 11), .int (nI 0)])), (pd 12, .inr (0, [.ref (pe 12), .int (nI 0)])), (pd 13, .inr (0, [.ref (pe 13), .int (nI 0)])), (pe 0, .inl (cI, 4, .inl (fun _ => 0))), (pe 1, .inl (cI, 4, .inl (fun _ => 0))), (pe 2, .inl (cI, 4, .inl (fun _ => 0))), (pe 3, .inl (cI, 4, .inl (fun _ => 0))), (pe 11, .inl (cI, 4, .inl (fun _ => 0))), (pd 0, .inr (0, [.ref (pe 0), .int (nI 0)]))]) (w1 := [(pd 1, .inr (0, [.ref (pe 1), .int (nI 0)]))]) hP hD [1] [0, 2, 3, 4, 5, 6, 7, 8, 9, 10, 11, 12, 13, 14, 15, 16, 17] rfl rfl (by decide) (by decide) hk1 hFc hP1 hD1
  generalize H1 = H at hP hS ⊢
  have hP : va_P (dC, dI) vwCl [(h0, .inr (4, [.ref (pd 0), .ref (pd 1), .ref (pd 2), .ref (pd 3), .ref (pd 4), .ref (pd 5), .ref (pd 6), .ref (pd 7), .ref (pd 8), .ref (pd 9), .ref (pd 10), .ref (pd 11), .ref (pd 12), .ref (pd 13)])), (pd 2, .inr (0, [.ref (pe 2), .int (nI 0)])), (pd 3, .inr (0, [.ref (pe 3), .int (nI 0)])), (pd 4, .inr (0, [.ref (pe 4), .int (nI 0)])), (pd 5, .inr (0, [.ref (pe 5), .int (nI 0)])), (pd 6, .inr (0, [.ref (pe 6), .int (nI 0)])), (pd 7, .inr (0, [.ref (pe 7), .int (nI 0)])), (pd 8, .inr (0, [.ref (pe 8), .int (nI 0)])), (pd 11, .inr (0, [.ref (pe 11), .int (nI 0)])), (pd 12, .inr (0, [.ref (pe 12), .int (nI 0)])), (pd 13, .inr (0, [.ref (pe 13), .int (nI 0)])), (pe 0, .inl (cI, 4, .inl (fun _ => 0))), (pe 1, .inl (cI, 4, .inl (fun _ => 0))), (pe 2, .inl (cI, 4, .inl (fun _ => 0))), (pe 3, .inl (cI, 4, .inl (fun _ => 0))), (pe 11, .inl (cI, 4, .inl (fun _ => 0))), (pd 0, .inr (0, [.ref (pe 0), .int (nI 0)])), (pd 1, .inr (0, [.ref (pe 1), .int (nI 0)]))] H := hP
  have hD : va_D A [(h0, .inr (4, [.ref (pd 0), .ref (pd 1), .ref (pd 2), .ref (pd 3), .ref (pd 4), .ref (pd 5), .ref (pd 6), .ref (pd 7), .ref (pd 8), .ref (pd 9), .ref (pd 10), .ref (pd 11), .ref (pd 12), .ref (pd 13)])), (pd 2, .inr (0, [.ref (pe 2), .int (nI 0)])), (pd 3, .inr (0, [.ref (pe 3), .int (nI 0)])), (pd 4, .inr (0, [.ref (pe 4), .int (nI 0)])), (pd 5, .inr (0, [.ref (pe 5), .int (nI 0)])), (pd 6, .inr (0, [.ref (pe 6), .int (nI 0)])), (pd 7, .inr (0, [.ref (pe 7), .int (nI 0)])), (pd 8, .inr (0, [.ref (pe 8), .int (nI 0)])), (pd 11, .inr (0, [.ref (pe 11), .int (nI 0)])), (pd 12, .inr (0, [.ref (pe 12), .int (nI 0)])), (pd 13, .inr (0, [.ref (pe 13), .int (nI 0)])), (pe 0, .inl (cI, 4, .inl (fun _ => 0))), (pe 1, .inl (cI, 4, .inl (fun _ => 0))), (pe 2, .inl (cI, 4, .inl (fun _ => 0))), (pe 3, .inl (cI, 4, .inl (fun _ => 0))), (pe 11, .inl (cI, 4, .inl (fun _ => 0))), (pd 0, .inr (0, [.ref (pe 0), .int (nI 0)])), (pd 1, .inr (0, [.ref (pe 1), .int (nI 0)]))] := hD
  refine W.widen (k := 0) (n := 0) (Nat.le_of_ble_eq_true rfl) (Nat.le_of_ble_eq_true rfl) ?_
  refine lv_aload_n hx hb dX4_startAnew_16 rfl (lv_at hl 0 rfl) ?_
  refine va_get (D := (dC, dI)) (ci := 4) (v := .ref (pd 2)) (C := RX4) (T := TX4) (N := 14) hx hb hts (fun w h => List.mem_cons_of_mem _ (List.mem_append_left _ (List.mem_append_right _ h))) hown hK hP 0 rfl rfl 2 (by decide) (hts (.fieldLink RX4 21 "PolarTypes$Types" "firsts" "LPolarTypes$Row;") (List.mem_of_getElem? (i := 3) (by decide +kernel))) (fun _ h9 => h9) rfl dX4_startAnew_17 ?_
  refine lv_iconst (v := 0) hx hb dX4_startAnew_20 (by decide) ?_
  have hPc := hP.sub (ws' := [(pd 2, .inr (0, [.ref (pe 2), .int (nI 0)]))]) [1] rfl
  have hDc := hD.sub (ws' := [(pd 2, .inr (0, [.ref (pe 2), .int (nI 0)]))]) [1] (by decide) rfl
  have hFc := va_free (wc := [(pd 2, .inr (0, [.ref (pe 2), .int (nI 0)]))]) hD hS hA [1] rfl
  refine va_callv (va_runV (As := [.int 0]) (rest := []) ⟨hx, hb, hml, hown, hts⟩ (c_Row_cut0 l dC dI cI (pd 2) (pe 2) H.size) (cwV 1 hts gX4_startAnew_X0_cutTo rfl rfl rfl (by decide +kernel) ⟨Nat.le_of_ble_eq_true rfl, Nat.le_of_ble_eq_true rfl⟩) ⟨fun a U g mk q => by obtain ⟨q0, q1, qP, qK, qD⟩ := q; exact ⟨q0, q1, qP, va_K.moved (u := U) (U := U.calling g mk a) (Vm.Alike.refl U.vm) qK, qD⟩, va_recv hK hPc (ci := 0) (q0 := 0) rfl rfl, fun U hU hW => ⟨rfl, by rw [hU], by rw [hU]; exact hPc, va_K.moved hW.alike hK, hDc.weaken (fun _ _ _ _ => trivial)⟩⟩ rfl rfl hl.1 rfl (lv_room (Nat.le_of_ble_eq_true rfl)) dX4_startAnew_21 ⟨Nat.le_of_ble_eq_true rfl, Nat.le_of_ble_eq_true rfl⟩) hS (fun q _ h => hFc q h) hFc (fun u t H1 locs ht hvm hw hB hz1 hk1 hS => ?_)
  obtain ⟨hP1, hK1, hD1⟩ := hB
  rw [ht] at hP1
  obtain ⟨hP, hD⟩ := va_join (wr := [(h0, .inr (4, [.ref (pd 0), .ref (pd 1), .ref (pd 2), .ref (pd 3), .ref (pd 4), .ref (pd 5), .ref (pd 6), .ref (pd 7), .ref (pd 8), .ref (pd 9), .ref (pd 10), .ref (pd 11), .ref (pd 12), .ref (pd 13)])), (pd 3, .inr (0, [.ref (pe 3), .int (nI 0)])), (pd 4, .inr (0, [.ref (pe 4), .int (nI 0)])), (pd 5, .inr (0, [.ref (pe 5), .int (nI 0)])), (pd 6, .inr (0, [.ref (pe 6), .int (nI 0)])), (pd 7, .inr (0, [.ref (pe 7), .int (nI 0)])), (pd 8, .inr (0, [.ref (pe 8), .int (nI 0)])), (pd 11, .inr (0, [.ref (pe 11), .int (nI 0)])), (pd 12, .inr (0, [.ref (pe 12), .int (nI 0)])), (pd 13, .inr (0, [.ref (pe 13), .int (nI 0)])), (pe 0, .inl (cI, 4, .inl (fun _ => 0))), (pe 1, .inl (cI, 4, .inl (fun _ => 0))), (pe 2, .inl (cI, 4, .inl (fun _ => 0))), (pe 3, .inl (cI, 4, .inl (fun _ => 0))), (pe 11, .inl (cI, 4, .inl (fun _ => 0))), (pd 0, .inr (0, [.ref (pe 0), .int (nI 0)])), (pd 1, .inr (0, [.ref (pe 1), .int (nI 0)]))]) (w1 := [(pd 2, .inr (0, [.ref (pe 2), .int (nI 0)]))]) hP hD [1] [0, 2, 3, 4, 5, 6, 7, 8, 9, 10, 11, 12, 13, 14, 15, 16, 17] rfl rfl (by decide) (by decide) hk1 hFc hP1 hD1
  generalize H1 = H at hP hS ⊢
  have hP : va_P (dC, dI) vwCl [(h0, .inr (4, [.ref (pd 0), .ref (pd 1), .ref (pd 2), .ref (pd 3), .ref (pd 4), .ref (pd 5), .ref (pd 6), .ref (pd 7), .ref (pd 8), .ref (pd 9), .ref (pd 10), .ref (pd 11), .ref (pd 12), .ref (pd 13)])), (pd 3, .inr (0, [.ref (pe 3), .int (nI 0)])), (pd 4, .inr (0, [.ref (pe 4), .int (nI 0)])), (pd 5, .inr (0, [.ref (pe 5), .int (nI 0)])), (pd 6, .inr (0, [.ref (pe 6), .int (nI 0)])), (pd 7, .inr (0, [.ref (pe 7), .int (nI 0)])), (pd 8, .inr (0, [.ref (pe 8), .int (nI 0)])), (pd 11, .inr (0, [.ref (pe 11), .int (nI 0)])), (pd 12, .inr (0, [.ref (pe 12), .int (nI 0)])), (pd 13, .inr (0, [.ref (pe 13), .int (nI 0)])), (pe 0, .inl (cI, 4, .inl (fun _ => 0))), (pe 1, .inl (cI, 4, .inl (fun _ => 0))), (pe 2, .inl (cI, 4, .inl (fun _ => 0))), (pe 3, .inl (cI, 4, .inl (fun _ => 0))), (pe 11, .inl (cI, 4, .inl (fun _ => 0))), (pd 0, .inr (0, [.ref (pe 0), .int (nI 0)])), (pd 1, .inr (0, [.ref (pe 1), .int (nI 0)])), (pd 2, .inr (0, [.ref (pe 2), .int (nI 0)]))] H := hP
  have hD : va_D A [(h0, .inr (4, [.ref (pd 0), .ref (pd 1), .ref (pd 2), .ref (pd 3), .ref (pd 4), .ref (pd 5), .ref (pd 6), .ref (pd 7), .ref (pd 8), .ref (pd 9), .ref (pd 10), .ref (pd 11), .ref (pd 12), .ref (pd 13)])), (pd 3, .inr (0, [.ref (pe 3), .int (nI 0)])), (pd 4, .inr (0, [.ref (pe 4), .int (nI 0)])), (pd 5, .inr (0, [.ref (pe 5), .int (nI 0)])), (pd 6, .inr (0, [.ref (pe 6), .int (nI 0)])), (pd 7, .inr (0, [.ref (pe 7), .int (nI 0)])), (pd 8, .inr (0, [.ref (pe 8), .int (nI 0)])), (pd 11, .inr (0, [.ref (pe 11), .int (nI 0)])), (pd 12, .inr (0, [.ref (pe 12), .int (nI 0)])), (pd 13, .inr (0, [.ref (pe 13), .int (nI 0)])), (pe 0, .inl (cI, 4, .inl (fun _ => 0))), (pe 1, .inl (cI, 4, .inl (fun _ => 0))), (pe 2, .inl (cI, 4, .inl (fun _ => 0))), (pe 3, .inl (cI, 4, .inl (fun _ => 0))), (pe 11, .inl (cI, 4, .inl (fun _ => 0))), (pd 0, .inr (0, [.ref (pe 0), .int (nI 0)])), (pd 1, .inr (0, [.ref (pe 1), .int (nI 0)])), (pd 2, .inr (0, [.ref (pe 2), .int (nI 0)]))] := hD
  refine W.widen (k := 0) (n := 0) (Nat.le_of_ble_eq_true rfl) (Nat.le_of_ble_eq_true rfl) ?_
  refine lv_aload_n hx hb dX4_startAnew_24 rfl (lv_at hl 0 rfl) ?_
  refine va_get (D := (dC, dI)) (ci := 4) (v := .ref (pd 3)) (C := RX4) (T := TX4) (N := 14) hx hb hts (fun w h => List.mem_cons_of_mem _ (List.mem_append_left _ (List.mem_append_right _ h))) hown hK hP 0 rfl rfl 3 (by decide) (hts (.fieldLink RX4 24 "PolarTypes$Types" "seconds" "LPolarTypes$Row;") (List.mem_of_getElem? (i := 4) (by decide +kernel))) (fun _ h9 => h9) rfl dX4_startAnew_25 ?_
  refine lv_iconst (v := 0) hx hb dX4_startAnew_28 (by decide) ?_
  have hPc := hP.sub (ws' := [(pd 3, .inr (0, [.ref (pe 3), .int (nI 0)]))]) [1] rfl
  have hDc := hD.sub (ws' := [(pd 3, .inr (0, [.ref (pe 3), .int (nI 0)]))]) [1] (by decide) rfl
  have hFc := va_free (wc := [(pd 3, .inr (0, [.ref (pe 3), .int (nI 0)]))]) hD hS hA [1] rfl
  refine va_callv (va_runV (As := [.int 0]) (rest := []) ⟨hx, hb, hml, hown, hts⟩ (c_Row_cut0 l dC dI cI (pd 3) (pe 3) H.size) (cwV 1 hts gX4_startAnew_X0_cutTo rfl rfl rfl (by decide +kernel) ⟨Nat.le_of_ble_eq_true rfl, Nat.le_of_ble_eq_true rfl⟩) ⟨fun a U g mk q => by obtain ⟨q0, q1, qP, qK, qD⟩ := q; exact ⟨q0, q1, qP, va_K.moved (u := U) (U := U.calling g mk a) (Vm.Alike.refl U.vm) qK, qD⟩, va_recv hK hPc (ci := 0) (q0 := 0) rfl rfl, fun U hU hW => ⟨rfl, by rw [hU], by rw [hU]; exact hPc, va_K.moved hW.alike hK, hDc.weaken (fun _ _ _ _ => trivial)⟩⟩ rfl rfl hl.1 rfl (lv_room (Nat.le_of_ble_eq_true rfl)) dX4_startAnew_29 ⟨Nat.le_of_ble_eq_true rfl, Nat.le_of_ble_eq_true rfl⟩) hS (fun q _ h => hFc q h) hFc (fun u t H1 locs ht hvm hw hB hz1 hk1 hS => ?_)
  obtain ⟨hP1, hK1, hD1⟩ := hB
  rw [ht] at hP1
  obtain ⟨hP, hD⟩ := va_join (wr := [(h0, .inr (4, [.ref (pd 0), .ref (pd 1), .ref (pd 2), .ref (pd 3), .ref (pd 4), .ref (pd 5), .ref (pd 6), .ref (pd 7), .ref (pd 8), .ref (pd 9), .ref (pd 10), .ref (pd 11), .ref (pd 12), .ref (pd 13)])), (pd 4, .inr (0, [.ref (pe 4), .int (nI 0)])), (pd 5, .inr (0, [.ref (pe 5), .int (nI 0)])), (pd 6, .inr (0, [.ref (pe 6), .int (nI 0)])), (pd 7, .inr (0, [.ref (pe 7), .int (nI 0)])), (pd 8, .inr (0, [.ref (pe 8), .int (nI 0)])), (pd 11, .inr (0, [.ref (pe 11), .int (nI 0)])), (pd 12, .inr (0, [.ref (pe 12), .int (nI 0)])), (pd 13, .inr (0, [.ref (pe 13), .int (nI 0)])), (pe 0, .inl (cI, 4, .inl (fun _ => 0))), (pe 1, .inl (cI, 4, .inl (fun _ => 0))), (pe 2, .inl (cI, 4, .inl (fun _ => 0))), (pe 3, .inl (cI, 4, .inl (fun _ => 0))), (pe 11, .inl (cI, 4, .inl (fun _ => 0))), (pd 0, .inr (0, [.ref (pe 0), .int (nI 0)])), (pd 1, .inr (0, [.ref (pe 1), .int (nI 0)])), (pd 2, .inr (0, [.ref (pe 2), .int (nI 0)]))]) (w1 := [(pd 3, .inr (0, [.ref (pe 3), .int (nI 0)]))]) hP hD [1] [0, 2, 3, 4, 5, 6, 7, 8, 9, 10, 11, 12, 13, 14, 15, 16, 17] rfl rfl (by decide) (by decide) hk1 hFc hP1 hD1
  generalize H1 = H at hP hS ⊢
  have hP : va_P (dC, dI) vwCl [(h0, .inr (4, [.ref (pd 0), .ref (pd 1), .ref (pd 2), .ref (pd 3), .ref (pd 4), .ref (pd 5), .ref (pd 6), .ref (pd 7), .ref (pd 8), .ref (pd 9), .ref (pd 10), .ref (pd 11), .ref (pd 12), .ref (pd 13)])), (pd 4, .inr (0, [.ref (pe 4), .int (nI 0)])), (pd 5, .inr (0, [.ref (pe 5), .int (nI 0)])), (pd 6, .inr (0, [.ref (pe 6), .int (nI 0)])), (pd 7, .inr (0, [.ref (pe 7), .int (nI 0)])), (pd 8, .inr (0, [.ref (pe 8), .int (nI 0)])), (pd 11, .inr (0, [.ref (pe 11), .int (nI 0)])), (pd 12, .inr (0, [.ref (pe 12), .int (nI 0)])), (pd 13, .inr (0, [.ref (pe 13), .int (nI 0)])), (pe 0, .inl (cI, 4, .inl (fun _ => 0))), (pe 1, .inl (cI, 4, .inl (fun _ => 0))), (pe 2, .inl (cI, 4, .inl (fun _ => 0))), (pe 3, .inl (cI, 4, .inl (fun _ => 0))), (pe 11, .inl (cI, 4, .inl (fun _ => 0))), (pd 0, .inr (0, [.ref (pe 0), .int (nI 0)])), (pd 1, .inr (0, [.ref (pe 1), .int (nI 0)])), (pd 2, .inr (0, [.ref (pe 2), .int (nI 0)])), (pd 3, .inr (0, [.ref (pe 3), .int (nI 0)]))] H := hP
  have hD : va_D A [(h0, .inr (4, [.ref (pd 0), .ref (pd 1), .ref (pd 2), .ref (pd 3), .ref (pd 4), .ref (pd 5), .ref (pd 6), .ref (pd 7), .ref (pd 8), .ref (pd 9), .ref (pd 10), .ref (pd 11), .ref (pd 12), .ref (pd 13)])), (pd 4, .inr (0, [.ref (pe 4), .int (nI 0)])), (pd 5, .inr (0, [.ref (pe 5), .int (nI 0)])), (pd 6, .inr (0, [.ref (pe 6), .int (nI 0)])), (pd 7, .inr (0, [.ref (pe 7), .int (nI 0)])), (pd 8, .inr (0, [.ref (pe 8), .int (nI 0)])), (pd 11, .inr (0, [.ref (pe 11), .int (nI 0)])), (pd 12, .inr (0, [.ref (pe 12), .int (nI 0)])), (pd 13, .inr (0, [.ref (pe 13), .int (nI 0)])), (pe 0, .inl (cI, 4, .inl (fun _ => 0))), (pe 1, .inl (cI, 4, .inl (fun _ => 0))), (pe 2, .inl (cI, 4, .inl (fun _ => 0))), (pe 3, .inl (cI, 4, .inl (fun _ => 0))), (pe 11, .inl (cI, 4, .inl (fun _ => 0))), (pd 0, .inr (0, [.ref (pe 0), .int (nI 0)])), (pd 1, .inr (0, [.ref (pe 1), .int (nI 0)])), (pd 2, .inr (0, [.ref (pe 2), .int (nI 0)])), (pd 3, .inr (0, [.ref (pe 3), .int (nI 0)]))] := hD
  refine W.widen (k := 0) (n := 0) (Nat.le_of_ble_eq_true rfl) (Nat.le_of_ble_eq_true rfl) ?_
  refine lv_aload_n hx hb dX4_startAnew_32 rfl (lv_at hl 0 rfl) ?_
  refine va_get (D := (dC, dI)) (ci := 4) (v := .ref (pd 4)) (C := RX4) (T := TX4) (N := 14) hx hb hts (fun w h => List.mem_cons_of_mem _ (List.mem_append_left _ (List.mem_append_right _ h))) hown hK hP 0 rfl rfl 4 (by decide) (hts (.fieldLink RX4 27 "PolarTypes$Types" "fieldLabels" "LPolarTypes$Row;") (List.mem_of_getElem? (i := 5) (by decide +kernel))) (fun _ h9 => h9) rfl dX4_startAnew_33 ?_
  refine lv_iconst (v := 0) hx hb dX4_startAnew_36 (by decide) ?_
  have hPc := hP.sub (ws' := [(pd 4, .inr (0, [.ref (pe 4), .int (nI 0)]))]) [1] rfl
  have hDc := hD.sub (ws' := [(pd 4, .inr (0, [.ref (pe 4), .int (nI 0)]))]) [1] (by decide) rfl
  have hFc := va_free (wc := [(pd 4, .inr (0, [.ref (pe 4), .int (nI 0)]))]) hD hS hA [1] rfl
  refine va_callv (va_runV (As := [.int 0]) (rest := []) ⟨hx, hb, hml, hown, hts⟩ (c_Row_cut0 l dC dI cI (pd 4) (pe 4) H.size) (cwV 1 hts gX4_startAnew_X0_cutTo rfl rfl rfl (by decide +kernel) ⟨Nat.le_of_ble_eq_true rfl, Nat.le_of_ble_eq_true rfl⟩) ⟨fun a U g mk q => by obtain ⟨q0, q1, qP, qK, qD⟩ := q; exact ⟨q0, q1, qP, va_K.moved (u := U) (U := U.calling g mk a) (Vm.Alike.refl U.vm) qK, qD⟩, va_recv hK hPc (ci := 0) (q0 := 0) rfl rfl, fun U hU hW => ⟨rfl, by rw [hU], by rw [hU]; exact hPc, va_K.moved hW.alike hK, hDc.weaken (fun _ _ _ _ => trivial)⟩⟩ rfl rfl hl.1 rfl (lv_room (Nat.le_of_ble_eq_true rfl)) dX4_startAnew_37 ⟨Nat.le_of_ble_eq_true rfl, Nat.le_of_ble_eq_true rfl⟩) hS (fun q _ h => hFc q h) hFc (fun u t H1 locs ht hvm hw hB hz1 hk1 hS => ?_)
  obtain ⟨hP1, hK1, hD1⟩ := hB
  rw [ht] at hP1
  obtain ⟨hP, hD⟩ := va_join (wr := [(h0, .inr (4, [.ref (pd 0), .ref (pd 1), .ref (pd 2), .ref (pd 3), .ref (pd 4), .ref (pd 5), .ref (pd 6), .ref (pd 7), .ref (pd 8), .ref (pd 9), .ref (pd 10), .ref (pd 11), .ref (pd 12), .ref (pd 13)])), (pd 5, .inr (0, [.ref (pe 5), .int (nI 0)])), (pd 6, .inr (0, [.ref (pe 6), .int (nI 0)])), (pd 7, .inr (0, [.ref (pe 7), .int (nI 0)])), (pd 8, .inr (0, [.ref (pe 8), .int (nI 0)])), (pd 11, .inr (0, [.ref (pe 11), .int (nI 0)])), (pd 12, .inr (0, [.ref (pe 12), .int (nI 0)])), (pd 13, .inr (0, [.ref (pe 13), .int (nI 0)])), (pe 0, .inl (cI, 4, .inl (fun _ => 0))), (pe 1, .inl (cI, 4, .inl (fun _ => 0))), (pe 2, .inl (cI, 4, .inl (fun _ => 0))), (pe 3, .inl (cI, 4, .inl (fun _ => 0))), (pe 11, .inl (cI, 4, .inl (fun _ => 0))), (pd 0, .inr (0, [.ref (pe 0), .int (nI 0)])), (pd 1, .inr (0, [.ref (pe 1), .int (nI 0)])), (pd 2, .inr (0, [.ref (pe 2), .int (nI 0)])), (pd 3, .inr (0, [.ref (pe 3), .int (nI 0)]))]) (w1 := [(pd 4, .inr (0, [.ref (pe 4), .int (nI 0)]))]) hP hD [1] [0, 2, 3, 4, 5, 6, 7, 8, 9, 10, 11, 12, 13, 14, 15, 16, 17] rfl rfl (by decide) (by decide) hk1 hFc hP1 hD1
  generalize H1 = H at hP hS ⊢
  have hP : va_P (dC, dI) vwCl [(h0, .inr (4, [.ref (pd 0), .ref (pd 1), .ref (pd 2), .ref (pd 3), .ref (pd 4), .ref (pd 5), .ref (pd 6), .ref (pd 7), .ref (pd 8), .ref (pd 9), .ref (pd 10), .ref (pd 11), .ref (pd 12), .ref (pd 13)])), (pd 5, .inr (0, [.ref (pe 5), .int (nI 0)])), (pd 6, .inr (0, [.ref (pe 6), .int (nI 0)])), (pd 7, .inr (0, [.ref (pe 7), .int (nI 0)])), (pd 8, .inr (0, [.ref (pe 8), .int (nI 0)])), (pd 11, .inr (0, [.ref (pe 11), .int (nI 0)])), (pd 12, .inr (0, [.ref (pe 12), .int (nI 0)])), (pd 13, .inr (0, [.ref (pe 13), .int (nI 0)])), (pe 0, .inl (cI, 4, .inl (fun _ => 0))), (pe 1, .inl (cI, 4, .inl (fun _ => 0))), (pe 2, .inl (cI, 4, .inl (fun _ => 0))), (pe 3, .inl (cI, 4, .inl (fun _ => 0))), (pe 11, .inl (cI, 4, .inl (fun _ => 0))), (pd 0, .inr (0, [.ref (pe 0), .int (nI 0)])), (pd 1, .inr (0, [.ref (pe 1), .int (nI 0)])), (pd 2, .inr (0, [.ref (pe 2), .int (nI 0)])), (pd 3, .inr (0, [.ref (pe 3), .int (nI 0)])), (pd 4, .inr (0, [.ref (pe 4), .int (nI 0)]))] H := hP
  have hD : va_D A [(h0, .inr (4, [.ref (pd 0), .ref (pd 1), .ref (pd 2), .ref (pd 3), .ref (pd 4), .ref (pd 5), .ref (pd 6), .ref (pd 7), .ref (pd 8), .ref (pd 9), .ref (pd 10), .ref (pd 11), .ref (pd 12), .ref (pd 13)])), (pd 5, .inr (0, [.ref (pe 5), .int (nI 0)])), (pd 6, .inr (0, [.ref (pe 6), .int (nI 0)])), (pd 7, .inr (0, [.ref (pe 7), .int (nI 0)])), (pd 8, .inr (0, [.ref (pe 8), .int (nI 0)])), (pd 11, .inr (0, [.ref (pe 11), .int (nI 0)])), (pd 12, .inr (0, [.ref (pe 12), .int (nI 0)])), (pd 13, .inr (0, [.ref (pe 13), .int (nI 0)])), (pe 0, .inl (cI, 4, .inl (fun _ => 0))), (pe 1, .inl (cI, 4, .inl (fun _ => 0))), (pe 2, .inl (cI, 4, .inl (fun _ => 0))), (pe 3, .inl (cI, 4, .inl (fun _ => 0))), (pe 11, .inl (cI, 4, .inl (fun _ => 0))), (pd 0, .inr (0, [.ref (pe 0), .int (nI 0)])), (pd 1, .inr (0, [.ref (pe 1), .int (nI 0)])), (pd 2, .inr (0, [.ref (pe 2), .int (nI 0)])), (pd 3, .inr (0, [.ref (pe 3), .int (nI 0)])), (pd 4, .inr (0, [.ref (pe 4), .int (nI 0)]))] := hD
  refine W.widen (k := 0) (n := 0) (Nat.le_of_ble_eq_true rfl) (Nat.le_of_ble_eq_true rfl) ?_
  refine lv_aload_n hx hb dX4_startAnew_40 rfl (lv_at hl 0 rfl) ?_
  refine va_get (D := (dC, dI)) (ci := 4) (v := .ref (pd 5)) (C := RX4) (T := TX4) (N := 14) hx hb hts (fun w h => List.mem_cons_of_mem _ (List.mem_append_left _ (List.mem_append_right _ h))) hown hK hP 0 rfl rfl 5 (by decide) (hts (.fieldLink RX4 30 "PolarTypes$Types" "fieldParts" "LPolarTypes$Row;") (List.mem_of_getElem? (i := 6) (by decide +kernel))) (fun _ h9 => h9) rfl dX4_startAnew_41 ?_
  refine lv_iconst (v := 0) hx hb dX4_startAnew_44 (by decide) ?_
  have hPc := hP.sub (ws' := [(pd 5, .inr (0, [.ref (pe 5), .int (nI 0)]))]) [1] rfl
  have hDc := hD.sub (ws' := [(pd 5, .inr (0, [.ref (pe 5), .int (nI 0)]))]) [1] (by decide) rfl
  have hFc := va_free (wc := [(pd 5, .inr (0, [.ref (pe 5), .int (nI 0)]))]) hD hS hA [1] rfl
  refine va_callv (va_runV (As := [.int 0]) (rest := []) ⟨hx, hb, hml, hown, hts⟩ (c_Row_cut0 l dC dI cI (pd 5) (pe 5) H.size) (cwV 1 hts gX4_startAnew_X0_cutTo rfl rfl rfl (by decide +kernel) ⟨Nat.le_of_ble_eq_true rfl, Nat.le_of_ble_eq_true rfl⟩) ⟨fun a U g mk q => by obtain ⟨q0, q1, qP, qK, qD⟩ := q; exact ⟨q0, q1, qP, va_K.moved (u := U) (U := U.calling g mk a) (Vm.Alike.refl U.vm) qK, qD⟩, va_recv hK hPc (ci := 0) (q0 := 0) rfl rfl, fun U hU hW => ⟨rfl, by rw [hU], by rw [hU]; exact hPc, va_K.moved hW.alike hK, hDc.weaken (fun _ _ _ _ => trivial)⟩⟩ rfl rfl hl.1 rfl (lv_room (Nat.le_of_ble_eq_true rfl)) dX4_startAnew_45 ⟨Nat.le_of_ble_eq_true rfl, Nat.le_of_ble_eq_true rfl⟩) hS (fun q _ h => hFc q h) hFc (fun u t H1 locs ht hvm hw hB hz1 hk1 hS => ?_)
  obtain ⟨hP1, hK1, hD1⟩ := hB
  rw [ht] at hP1
  obtain ⟨hP, hD⟩ := va_join (wr := [(h0, .inr (4, [.ref (pd 0), .ref (pd 1), .ref (pd 2), .ref (pd 3), .ref (pd 4), .ref (pd 5), .ref (pd 6), .ref (pd 7), .ref (pd 8), .ref (pd 9), .ref (pd 10), .ref (pd 11), .ref (pd 12), .ref (pd 13)])), (pd 6, .inr (0, [.ref (pe 6), .int (nI 0)])), (pd 7, .inr (0, [.ref (pe 7), .int (nI 0)])), (pd 8, .inr (0, [.ref (pe 8), .int (nI 0)])), (pd 11, .inr (0, [.ref (pe 11), .int (nI 0)])), (pd 12, .inr (0, [.ref (pe 12), .int (nI 0)])), (pd 13, .inr (0, [.ref (pe 13), .int (nI 0)])), (pe 0, .inl (cI, 4, .inl (fun _ => 0))), (pe 1, .inl (cI, 4, .inl (fun _ => 0))), (pe 2, .inl (cI, 4, .inl (fun _ => 0))), (pe 3, .inl (cI, 4, .inl (fun _ => 0))), (pe 11, .inl (cI, 4, .inl (fun _ => 0))), (pd 0, .inr (0, [.ref (pe 0), .int (nI 0)])), (pd 1, .inr (0, [.ref (pe 1), .int (nI 0)])), (pd 2, .inr (0, [.ref (pe 2), .int (nI 0)])), (pd 3, .inr (0, [.ref (pe 3), .int (nI 0)])), (pd 4, .inr (0, [.ref (pe 4), .int (nI 0)]))]) (w1 := [(pd 5, .inr (0, [.ref (pe 5), .int (nI 0)]))]) hP hD [1] [0, 2, 3, 4, 5, 6, 7, 8, 9, 10, 11, 12, 13, 14, 15, 16, 17] rfl rfl (by decide) (by decide) hk1 hFc hP1 hD1
  generalize H1 = H at hP hS ⊢
  have hP : va_P (dC, dI) vwCl [(h0, .inr (4, [.ref (pd 0), .ref (pd 1), .ref (pd 2), .ref (pd 3), .ref (pd 4), .ref (pd 5), .ref (pd 6), .ref (pd 7), .ref (pd 8), .ref (pd 9), .ref (pd 10), .ref (pd 11), .ref (pd 12), .ref (pd 13)])), (pd 6, .inr (0, [.ref (pe 6), .int (nI 0)])), (pd 7, .inr (0, [.ref (pe 7), .int (nI 0)])), (pd 8, .inr (0, [.ref (pe 8), .int (nI 0)])), (pd 11, .inr (0, [.ref (pe 11), .int (nI 0)])), (pd 12, .inr (0, [.ref (pe 12), .int (nI 0)])), (pd 13, .inr (0, [.ref (pe 13), .int (nI 0)])), (pe 0, .inl (cI, 4, .inl (fun _ => 0))), (pe 1, .inl (cI, 4, .inl (fun _ => 0))), (pe 2, .inl (cI, 4, .inl (fun _ => 0))), (pe 3, .inl (cI, 4, .inl (fun _ => 0))), (pe 11, .inl (cI, 4, .inl (fun _ => 0))), (pd 0, .inr (0, [.ref (pe 0), .int (nI 0)])), (pd 1, .inr (0, [.ref (pe 1), .int (nI 0)])), (pd 2, .inr (0, [.ref (pe 2), .int (nI 0)])), (pd 3, .inr (0, [.ref (pe 3), .int (nI 0)])), (pd 4, .inr (0, [.ref (pe 4), .int (nI 0)])), (pd 5, .inr (0, [.ref (pe 5), .int (nI 0)]))] H := hP
  have hD : va_D A [(h0, .inr (4, [.ref (pd 0), .ref (pd 1), .ref (pd 2), .ref (pd 3), .ref (pd 4), .ref (pd 5), .ref (pd 6), .ref (pd 7), .ref (pd 8), .ref (pd 9), .ref (pd 10), .ref (pd 11), .ref (pd 12), .ref (pd 13)])), (pd 6, .inr (0, [.ref (pe 6), .int (nI 0)])), (pd 7, .inr (0, [.ref (pe 7), .int (nI 0)])), (pd 8, .inr (0, [.ref (pe 8), .int (nI 0)])), (pd 11, .inr (0, [.ref (pe 11), .int (nI 0)])), (pd 12, .inr (0, [.ref (pe 12), .int (nI 0)])), (pd 13, .inr (0, [.ref (pe 13), .int (nI 0)])), (pe 0, .inl (cI, 4, .inl (fun _ => 0))), (pe 1, .inl (cI, 4, .inl (fun _ => 0))), (pe 2, .inl (cI, 4, .inl (fun _ => 0))), (pe 3, .inl (cI, 4, .inl (fun _ => 0))), (pe 11, .inl (cI, 4, .inl (fun _ => 0))), (pd 0, .inr (0, [.ref (pe 0), .int (nI 0)])), (pd 1, .inr (0, [.ref (pe 1), .int (nI 0)])), (pd 2, .inr (0, [.ref (pe 2), .int (nI 0)])), (pd 3, .inr (0, [.ref (pe 3), .int (nI 0)])), (pd 4, .inr (0, [.ref (pe 4), .int (nI 0)])), (pd 5, .inr (0, [.ref (pe 5), .int (nI 0)]))] := hD
  refine W.widen (k := 0) (n := 0) (Nat.le_of_ble_eq_true rfl) (Nat.le_of_ble_eq_true rfl) ?_
  refine lv_aload_n hx hb dX4_startAnew_48 rfl (lv_at hl 0 rfl) ?_
  refine va_get (D := (dC, dI)) (ci := 4) (v := .ref (pd 6)) (C := RX4) (T := TX4) (N := 14) hx hb hts (fun w h => List.mem_cons_of_mem _ (List.mem_append_left _ (List.mem_append_right _ h))) hown hK hP 0 rfl rfl 6 (by decide) (hts (.fieldLink RX4 33 "PolarTypes$Types" "stagedLabels" "LPolarTypes$Row;") (List.mem_of_getElem? (i := 7) (by decide +kernel))) (fun _ h9 => h9) rfl dX4_startAnew_49 ?_
  refine lv_iconst (v := 0) hx hb dX4_startAnew_52 (by decide) ?_
  have hPc := hP.sub (ws' := [(pd 6, .inr (0, [.ref (pe 6), .int (nI 0)]))]) [1] rfl
  have hDc := hD.sub (ws' := [(pd 6, .inr (0, [.ref (pe 6), .int (nI 0)]))]) [1] (by decide) rfl
  have hFc := va_free (wc := [(pd 6, .inr (0, [.ref (pe 6), .int (nI 0)]))]) hD hS hA [1] rfl
  refine va_callv (va_runV (As := [.int 0]) (rest := []) ⟨hx, hb, hml, hown, hts⟩ (c_Row_cut0 l dC dI cI (pd 6) (pe 6) H.size) (cwV 1 hts gX4_startAnew_X0_cutTo rfl rfl rfl (by decide +kernel) ⟨Nat.le_of_ble_eq_true rfl, Nat.le_of_ble_eq_true rfl⟩) ⟨fun a U g mk q => by obtain ⟨q0, q1, qP, qK, qD⟩ := q; exact ⟨q0, q1, qP, va_K.moved (u := U) (U := U.calling g mk a) (Vm.Alike.refl U.vm) qK, qD⟩, va_recv hK hPc (ci := 0) (q0 := 0) rfl rfl, fun U hU hW => ⟨rfl, by rw [hU], by rw [hU]; exact hPc, va_K.moved hW.alike hK, hDc.weaken (fun _ _ _ _ => trivial)⟩⟩ rfl rfl hl.1 rfl (lv_room (Nat.le_of_ble_eq_true rfl)) dX4_startAnew_53 ⟨Nat.le_of_ble_eq_true rfl, Nat.le_of_ble_eq_true rfl⟩) hS (fun q _ h => hFc q h) hFc (fun u t H1 locs ht hvm hw hB hz1 hk1 hS => ?_)
  obtain ⟨hP1, hK1, hD1⟩ := hB
  rw [ht] at hP1
  obtain ⟨hP, hD⟩ := va_join (wr := [(h0, .inr (4, [.ref (pd 0), .ref (pd 1), .ref (pd 2), .ref (pd 3), .ref (pd 4), .ref (pd 5), .ref (pd 6), .ref (pd 7), .ref (pd 8), .ref (pd 9), .ref (pd 10), .ref (pd 11), .ref (pd 12), .ref (pd 13)])), (pd 7, .inr (0, [.ref (pe 7), .int (nI 0)])), (pd 8, .inr (0, [.ref (pe 8), .int (nI 0)])), (pd 11, .inr (0, [.ref (pe 11), .int (nI 0)])), (pd 12, .inr (0, [.ref (pe 12), .int (nI 0)])), (pd 13, .inr (0, [.ref (pe 13), .int (nI 0)])), (pe 0, .inl (cI, 4, .inl (fun _ => 0))), (pe 1, .inl (cI, 4, .inl (fun _ => 0))), (pe 2, .inl (cI, 4, .inl (fun _ => 0))), (pe 3, .inl (cI, 4, .inl (fun _ => 0))), (pe 11, .inl (cI, 4, .inl (fun _ => 0))), (pd 0, .inr (0, [.ref (pe 0), .int (nI 0)])), (pd 1, .inr (0, [.ref (pe 1), .int (nI 0)])), (pd 2, .inr (0, [.ref (pe 2), .int (nI 0)])), (pd 3, .inr (0, [.ref (pe 3), .int (nI 0)])), (pd 4, .inr (0, [.ref (pe 4), .int (nI 0)])), (pd 5, .inr (0, [.ref (pe 5), .int (nI 0)]))]) (w1 := [(pd 6, .inr (0, [.ref (pe 6), .int (nI 0)]))]) hP hD [1] [0, 2, 3, 4, 5, 6, 7, 8, 9, 10, 11, 12, 13, 14, 15, 16, 17] rfl rfl (by decide) (by decide) hk1 hFc hP1 hD1
  generalize H1 = H at hP hS ⊢
  have hP : va_P (dC, dI) vwCl [(h0, .inr (4, [.ref (pd 0), .ref (pd 1), .ref (pd 2), .ref (pd 3), .ref (pd 4), .ref (pd 5), .ref (pd 6), .ref (pd 7), .ref (pd 8), .ref (pd 9), .ref (pd 10), .ref (pd 11), .ref (pd 12), .ref (pd 13)])), (pd 7, .inr (0, [.ref (pe 7), .int (nI 0)])), (pd 8, .inr (0, [.ref (pe 8), .int (nI 0)])), (pd 11, .inr (0, [.ref (pe 11), .int (nI 0)])), (pd 12, .inr (0, [.ref (pe 12), .int (nI 0)])), (pd 13, .inr (0, [.ref (pe 13), .int (nI 0)])), (pe 0, .inl (cI, 4, .inl (fun _ => 0))), (pe 1, .inl (cI, 4, .inl (fun _ => 0))), (pe 2, .inl (cI, 4, .inl (fun _ => 0))), (pe 3, .inl (cI, 4, .inl (fun _ => 0))), (pe 11, .inl (cI, 4, .inl (fun _ => 0))), (pd 0, .inr (0, [.ref (pe 0), .int (nI 0)])), (pd 1, .inr (0, [.ref (pe 1), .int (nI 0)])), (pd 2, .inr (0, [.ref (pe 2), .int (nI 0)])), (pd 3, .inr (0, [.ref (pe 3), .int (nI 0)])), (pd 4, .inr (0, [.ref (pe 4), .int (nI 0)])), (pd 5, .inr (0, [.ref (pe 5), .int (nI 0)])), (pd 6, .inr (0, [.ref (pe 6), .int (nI 0)]))] H := hP
  have hD : va_D A [(h0, .inr (4, [.ref (pd 0), .ref (pd 1), .ref (pd 2), .ref (pd 3), .ref (pd 4), .ref (pd 5), .ref (pd 6), .ref (pd 7), .ref (pd 8), .ref (pd 9), .ref (pd 10), .ref (pd 11), .ref (pd 12), .ref (pd 13)])), (pd 7, .inr (0, [.ref (pe 7), .int (nI 0)])), (pd 8, .inr (0, [.ref (pe 8), .int (nI 0)])), (pd 11, .inr (0, [.ref (pe 11), .int (nI 0)])), (pd 12, .inr (0, [.ref (pe 12), .int (nI 0)])), (pd 13, .inr (0, [.ref (pe 13), .int (nI 0)])), (pe 0, .inl (cI, 4, .inl (fun _ => 0))), (pe 1, .inl (cI, 4, .inl (fun _ => 0))), (pe 2, .inl (cI, 4, .inl (fun _ => 0))), (pe 3, .inl (cI, 4, .inl (fun _ => 0))), (pe 11, .inl (cI, 4, .inl (fun _ => 0))), (pd 0, .inr (0, [.ref (pe 0), .int (nI 0)])), (pd 1, .inr (0, [.ref (pe 1), .int (nI 0)])), (pd 2, .inr (0, [.ref (pe 2), .int (nI 0)])), (pd 3, .inr (0, [.ref (pe 3), .int (nI 0)])), (pd 4, .inr (0, [.ref (pe 4), .int (nI 0)])), (pd 5, .inr (0, [.ref (pe 5), .int (nI 0)])), (pd 6, .inr (0, [.ref (pe 6), .int (nI 0)]))] := hD
  refine W.widen (k := 0) (n := 0) (Nat.le_of_ble_eq_true rfl) (Nat.le_of_ble_eq_true rfl) ?_
  refine lv_aload_n hx hb dX4_startAnew_56 rfl (lv_at hl 0 rfl) ?_
  refine va_get (D := (dC, dI)) (ci := 4) (v := .ref (pd 7)) (C := RX4) (T := TX4) (N := 14) hx hb hts (fun w h => List.mem_cons_of_mem _ (List.mem_append_left _ (List.mem_append_right _ h))) hown hK hP 0 rfl rfl 7 (by decide) (hts (.fieldLink RX4 36 "PolarTypes$Types" "stagedParts" "LPolarTypes$Row;") (List.mem_of_getElem? (i := 8) (by decide +kernel))) (fun _ h9 => h9) rfl dX4_startAnew_57 ?_
  refine lv_iconst (v := 0) hx hb dX4_startAnew_60 (by decide) ?_
  have hPc := hP.sub (ws' := [(pd 7, .inr (0, [.ref (pe 7), .int (nI 0)]))]) [1] rfl
  have hDc := hD.sub (ws' := [(pd 7, .inr (0, [.ref (pe 7), .int (nI 0)]))]) [1] (by decide) rfl
  have hFc := va_free (wc := [(pd 7, .inr (0, [.ref (pe 7), .int (nI 0)]))]) hD hS hA [1] rfl
  refine va_callv (va_runV (As := [.int 0]) (rest := []) ⟨hx, hb, hml, hown, hts⟩ (c_Row_cut0 l dC dI cI (pd 7) (pe 7) H.size) (cwV 1 hts gX4_startAnew_X0_cutTo rfl rfl rfl (by decide +kernel) ⟨Nat.le_of_ble_eq_true rfl, Nat.le_of_ble_eq_true rfl⟩) ⟨fun a U g mk q => by obtain ⟨q0, q1, qP, qK, qD⟩ := q; exact ⟨q0, q1, qP, va_K.moved (u := U) (U := U.calling g mk a) (Vm.Alike.refl U.vm) qK, qD⟩, va_recv hK hPc (ci := 0) (q0 := 0) rfl rfl, fun U hU hW => ⟨rfl, by rw [hU], by rw [hU]; exact hPc, va_K.moved hW.alike hK, hDc.weaken (fun _ _ _ _ => trivial)⟩⟩ rfl rfl hl.1 rfl (lv_room (Nat.le_of_ble_eq_true rfl)) dX4_startAnew_61 ⟨Nat.le_of_ble_eq_true rfl, Nat.le_of_ble_eq_true rfl⟩) hS (fun q _ h => hFc q h) hFc (fun u t H1 locs ht hvm hw hB hz1 hk1 hS => ?_)
  obtain ⟨hP1, hK1, hD1⟩ := hB
  rw [ht] at hP1
  obtain ⟨hP, hD⟩ := va_join (wr := [(h0, .inr (4, [.ref (pd 0), .ref (pd 1), .ref (pd 2), .ref (pd 3), .ref (pd 4), .ref (pd 5), .ref (pd 6), .ref (pd 7), .ref (pd 8), .ref (pd 9), .ref (pd 10), .ref (pd 11), .ref (pd 12), .ref (pd 13)])), (pd 8, .inr (0, [.ref (pe 8), .int (nI 0)])), (pd 11, .inr (0, [.ref (pe 11), .int (nI 0)])), (pd 12, .inr (0, [.ref (pe 12), .int (nI 0)])), (pd 13, .inr (0, [.ref (pe 13), .int (nI 0)])), (pe 0, .inl (cI, 4, .inl (fun _ => 0))), (pe 1, .inl (cI, 4, .inl (fun _ => 0))), (pe 2, .inl (cI, 4, .inl (fun _ => 0))), (pe 3, .inl (cI, 4, .inl (fun _ => 0))), (pe 11, .inl (cI, 4, .inl (fun _ => 0))), (pd 0, .inr (0, [.ref (pe 0), .int (nI 0)])), (pd 1, .inr (0, [.ref (pe 1), .int (nI 0)])), (pd 2, .inr (0, [.ref (pe 2), .int (nI 0)])), (pd 3, .inr (0, [.ref (pe 3), .int (nI 0)])), (pd 4, .inr (0, [.ref (pe 4), .int (nI 0)])), (pd 5, .inr (0, [.ref (pe 5), .int (nI 0)])), (pd 6, .inr (0, [.ref (pe 6), .int (nI 0)]))]) (w1 := [(pd 7, .inr (0, [.ref (pe 7), .int (nI 0)]))]) hP hD [1] [0, 2, 3, 4, 5, 6, 7, 8, 9, 10, 11, 12, 13, 14, 15, 16, 17] rfl rfl (by decide) (by decide) hk1 hFc hP1 hD1
  generalize H1 = H at hP hS ⊢
  have hP : va_P (dC, dI) vwCl [(h0, .inr (4, [.ref (pd 0), .ref (pd 1), .ref (pd 2), .ref (pd 3), .ref (pd 4), .ref (pd 5), .ref (pd 6), .ref (pd 7), .ref (pd 8), .ref (pd 9), .ref (pd 10), .ref (pd 11), .ref (pd 12), .ref (pd 13)])), (pd 8, .inr (0, [.ref (pe 8), .int (nI 0)])), (pd 11, .inr (0, [.ref (pe 11), .int (nI 0)])), (pd 12, .inr (0, [.ref (pe 12), .int (nI 0)])), (pd 13, .inr (0, [.ref (pe 13), .int (nI 0)])), (pe 0, .inl (cI, 4, .inl (fun _ => 0))), (pe 1, .inl (cI, 4, .inl (fun _ => 0))), (pe 2, .inl (cI, 4, .inl (fun _ => 0))), (pe 3, .inl (cI, 4, .inl (fun _ => 0))), (pe 11, .inl (cI, 4, .inl (fun _ => 0))), (pd 0, .inr (0, [.ref (pe 0), .int (nI 0)])), (pd 1, .inr (0, [.ref (pe 1), .int (nI 0)])), (pd 2, .inr (0, [.ref (pe 2), .int (nI 0)])), (pd 3, .inr (0, [.ref (pe 3), .int (nI 0)])), (pd 4, .inr (0, [.ref (pe 4), .int (nI 0)])), (pd 5, .inr (0, [.ref (pe 5), .int (nI 0)])), (pd 6, .inr (0, [.ref (pe 6), .int (nI 0)])), (pd 7, .inr (0, [.ref (pe 7), .int (nI 0)]))] H := hP
  have hD : va_D A [(h0, .inr (4, [.ref (pd 0), .ref (pd 1), .ref (pd 2), .ref (pd 3), .ref (pd 4), .ref (pd 5), .ref (pd 6), .ref (pd 7), .ref (pd 8), .ref (pd 9), .ref (pd 10), .ref (pd 11), .ref (pd 12), .ref (pd 13)])), (pd 8, .inr (0, [.ref (pe 8), .int (nI 0)])), (pd 11, .inr (0, [.ref (pe 11), .int (nI 0)])), (pd 12, .inr (0, [.ref (pe 12), .int (nI 0)])), (pd 13, .inr (0, [.ref (pe 13), .int (nI 0)])), (pe 0, .inl (cI, 4, .inl (fun _ => 0))), (pe 1, .inl (cI, 4, .inl (fun _ => 0))), (pe 2, .inl (cI, 4, .inl (fun _ => 0))), (pe 3, .inl (cI, 4, .inl (fun _ => 0))), (pe 11, .inl (cI, 4, .inl (fun _ => 0))), (pd 0, .inr (0, [.ref (pe 0), .int (nI 0)])), (pd 1, .inr (0, [.ref (pe 1), .int (nI 0)])), (pd 2, .inr (0, [.ref (pe 2), .int (nI 0)])), (pd 3, .inr (0, [.ref (pe 3), .int (nI 0)])), (pd 4, .inr (0, [.ref (pe 4), .int (nI 0)])), (pd 5, .inr (0, [.ref (pe 5), .int (nI 0)])), (pd 6, .inr (0, [.ref (pe 6), .int (nI 0)])), (pd 7, .inr (0, [.ref (pe 7), .int (nI 0)]))] := hD
  refine W.widen (k := 0) (n := 0) (Nat.le_of_ble_eq_true rfl) (Nat.le_of_ble_eq_true rfl) ?_
  refine lv_aload_n hx hb dX4_startAnew_64 rfl (lv_at hl 0 rfl) ?_
  refine va_get (D := (dC, dI)) (ci := 4) (v := .ref (pd 8)) (C := RX4) (T := TX4) (N := 14) hx hb hts (fun w h => List.mem_cons_of_mem _ (List.mem_append_left _ (List.mem_append_right _ h))) hown hK hP 0 rfl rfl 8 (by decide) (hts (.fieldLink RX4 39 "PolarTypes$Types" "variables" "LPolarTypes$Row;") (List.mem_of_getElem? (i := 9) (by decide +kernel))) (fun _ h9 => h9) rfl dX4_startAnew_65 ?_
  refine lv_iconst (v := 0) hx hb dX4_startAnew_68 (by decide) ?_
  have hPc := hP.sub (ws' := [(pd 8, .inr (0, [.ref (pe 8), .int (nI 0)]))]) [1] rfl
  have hDc := hD.sub (ws' := [(pd 8, .inr (0, [.ref (pe 8), .int (nI 0)]))]) [1] (by decide) rfl
  have hFc := va_free (wc := [(pd 8, .inr (0, [.ref (pe 8), .int (nI 0)]))]) hD hS hA [1] rfl
  refine va_callv (va_runV (As := [.int 0]) (rest := []) ⟨hx, hb, hml, hown, hts⟩ (c_Row_cut0 l dC dI cI (pd 8) (pe 8) H.size) (cwV 1 hts gX4_startAnew_X0_cutTo rfl rfl rfl (by decide +kernel) ⟨Nat.le_of_ble_eq_true rfl, Nat.le_of_ble_eq_true rfl⟩) ⟨fun a U g mk q => by obtain ⟨q0, q1, qP, qK, qD⟩ := q; exact ⟨q0, q1, qP, va_K.moved (u := U) (U := U.calling g mk a) (Vm.Alike.refl U.vm) qK, qD⟩, va_recv hK hPc (ci := 0) (q0 := 0) rfl rfl, fun U hU hW => ⟨rfl, by rw [hU], by rw [hU]; exact hPc, va_K.moved hW.alike hK, hDc.weaken (fun _ _ _ _ => trivial)⟩⟩ rfl rfl hl.1 rfl (lv_room (Nat.le_of_ble_eq_true rfl)) dX4_startAnew_69 ⟨Nat.le_of_ble_eq_true rfl, Nat.le_of_ble_eq_true rfl⟩) hS (fun q _ h => hFc q h) hFc (fun u t H1 locs ht hvm hw hB hz1 hk1 hS => ?_)
  obtain ⟨hP1, hK1, hD1⟩ := hB
  rw [ht] at hP1
  obtain ⟨hP, hD⟩ := va_join (wr := [(h0, .inr (4, [.ref (pd 0), .ref (pd 1), .ref (pd 2), .ref (pd 3), .ref (pd 4), .ref (pd 5), .ref (pd 6), .ref (pd 7), .ref (pd 8), .ref (pd 9), .ref (pd 10), .ref (pd 11), .ref (pd 12), .ref (pd 13)])), (pd 11, .inr (0, [.ref (pe 11), .int (nI 0)])), (pd 12, .inr (0, [.ref (pe 12), .int (nI 0)])), (pd 13, .inr (0, [.ref (pe 13), .int (nI 0)])), (pe 0, .inl (cI, 4, .inl (fun _ => 0))), (pe 1, .inl (cI, 4, .inl (fun _ => 0))), (pe 2, .inl (cI, 4, .inl (fun _ => 0))), (pe 3, .inl (cI, 4, .inl (fun _ => 0))), (pe 11, .inl (cI, 4, .inl (fun _ => 0))), (pd 0, .inr (0, [.ref (pe 0), .int (nI 0)])), (pd 1, .inr (0, [.ref (pe 1), .int (nI 0)])), (pd 2, .inr (0, [.ref (pe 2), .int (nI 0)])), (pd 3, .inr (0, [.ref (pe 3), .int (nI 0)])), (pd 4, .inr (0, [.ref (pe 4), .int (nI 0)])), (pd 5, .inr (0, [.ref (pe 5), .int (nI 0)])), (pd 6, .inr (0, [.ref (pe 6), .int (nI 0)])), (pd 7, .inr (0, [.ref (pe 7), .int (nI 0)]))]) (w1 := [(pd 8, .inr (0, [.ref (pe 8), .int (nI 0)]))]) hP hD [1] [0, 2, 3, 4, 5, 6, 7, 8, 9, 10, 11, 12, 13, 14, 15, 16, 17] rfl rfl (by decide) (by decide) hk1 hFc hP1 hD1
  generalize H1 = H at hP hS ⊢
  have hP : va_P (dC, dI) vwCl [(h0, .inr (4, [.ref (pd 0), .ref (pd 1), .ref (pd 2), .ref (pd 3), .ref (pd 4), .ref (pd 5), .ref (pd 6), .ref (pd 7), .ref (pd 8), .ref (pd 9), .ref (pd 10), .ref (pd 11), .ref (pd 12), .ref (pd 13)])), (pd 11, .inr (0, [.ref (pe 11), .int (nI 0)])), (pd 12, .inr (0, [.ref (pe 12), .int (nI 0)])), (pd 13, .inr (0, [.ref (pe 13), .int (nI 0)])), (pe 0, .inl (cI, 4, .inl (fun _ => 0))), (pe 1, .inl (cI, 4, .inl (fun _ => 0))), (pe 2, .inl (cI, 4, .inl (fun _ => 0))), (pe 3, .inl (cI, 4, .inl (fun _ => 0))), (pe 11, .inl (cI, 4, .inl (fun _ => 0))), (pd 0, .inr (0, [.ref (pe 0), .int (nI 0)])), (pd 1, .inr (0, [.ref (pe 1), .int (nI 0)])), (pd 2, .inr (0, [.ref (pe 2), .int (nI 0)])), (pd 3, .inr (0, [.ref (pe 3), .int (nI 0)])), (pd 4, .inr (0, [.ref (pe 4), .int (nI 0)])), (pd 5, .inr (0, [.ref (pe 5), .int (nI 0)])), (pd 6, .inr (0, [.ref (pe 6), .int (nI 0)])), (pd 7, .inr (0, [.ref (pe 7), .int (nI 0)])), (pd 8, .inr (0, [.ref (pe 8), .int (nI 0)]))] H := hP
  have hD : va_D A [(h0, .inr (4, [.ref (pd 0), .ref (pd 1), .ref (pd 2), .ref (pd 3), .ref (pd 4), .ref (pd 5), .ref (pd 6), .ref (pd 7), .ref (pd 8), .ref (pd 9), .ref (pd 10), .ref (pd 11), .ref (pd 12), .ref (pd 13)])), (pd 11, .inr (0, [.ref (pe 11), .int (nI 0)])), (pd 12, .inr (0, [.ref (pe 12), .int (nI 0)])), (pd 13, .inr (0, [.ref (pe 13), .int (nI 0)])), (pe 0, .inl (cI, 4, .inl (fun _ => 0))), (pe 1, .inl (cI, 4, .inl (fun _ => 0))), (pe 2, .inl (cI, 4, .inl (fun _ => 0))), (pe 3, .inl (cI, 4, .inl (fun _ => 0))), (pe 11, .inl (cI, 4, .inl (fun _ => 0))), (pd 0, .inr (0, [.ref (pe 0), .int (nI 0)])), (pd 1, .inr (0, [.ref (pe 1), .int (nI 0)])), (pd 2, .inr (0, [.ref (pe 2), .int (nI 0)])), (pd 3, .inr (0, [.ref (pe 3), .int (nI 0)])), (pd 4, .inr (0, [.ref (pe 4), .int (nI 0)])), (pd 5, .inr (0, [.ref (pe 5), .int (nI 0)])), (pd 6, .inr (0, [.ref (pe 6), .int (nI 0)])), (pd 7, .inr (0, [.ref (pe 7), .int (nI 0)])), (pd 8, .inr (0, [.ref (pe 8), .int (nI 0)]))] := hD
  refine W.widen (k := 0) (n := 0) (Nat.le_of_ble_eq_true rfl) (Nat.le_of_ble_eq_true rfl) ?_
  refine lv_aload_n hx hb dX4_startAnew_72 rfl (lv_at hl 0 rfl) ?_
  refine va_get (D := (dC, dI)) (ci := 4) (v := .ref (pd 11)) (C := RX4) (T := TX4) (N := 14) hx hb hts (fun w h => List.mem_cons_of_mem _ (List.mem_append_left _ (List.mem_append_right _ h))) hown hK hP 0 rfl rfl 11 (by decide) (hts (.fieldLink RX4 49 "PolarTypes$Types" "lastAsked" "LPolarTypes$Row;") (List.mem_of_getElem? (i := 10) (by decide +kernel))) (fun _ h9 => h9) rfl dX4_startAnew_73 ?_
  refine lv_iconst (v := 0) hx hb dX4_startAnew_76 (by decide) ?_
  have hPc := hP.sub (ws' := [(pd 11, .inr (0, [.ref (pe 11), .int (nI 0)]))]) [1] rfl
  have hDc := hD.sub (ws' := [(pd 11, .inr (0, [.ref (pe 11), .int (nI 0)]))]) [1] (by decide) rfl
  have hFc := va_free (wc := [(pd 11, .inr (0, [.ref (pe 11), .int (nI 0)]))]) hD hS hA [1] rfl
  refine va_callv (va_runV (As := [.int 0]) (rest := []) ⟨hx, hb, hml, hown, hts⟩ (c_Row_cut0 l dC dI cI (pd 11) (pe 11) H.size) (cwV 1 hts gX4_startAnew_X0_cutTo rfl rfl rfl (by decide +kernel) ⟨Nat.le_of_ble_eq_true rfl, Nat.le_of_ble_eq_true rfl⟩) ⟨fun a U g mk q => by obtain ⟨q0, q1, qP, qK, qD⟩ := q; exact ⟨q0, q1, qP, va_K.moved (u := U) (U := U.calling g mk a) (Vm.Alike.refl U.vm) qK, qD⟩, va_recv hK hPc (ci := 0) (q0 := 0) rfl rfl, fun U hU hW => ⟨rfl, by rw [hU], by rw [hU]; exact hPc, va_K.moved hW.alike hK, hDc.weaken (fun _ _ _ _ => trivial)⟩⟩ rfl rfl hl.1 rfl (lv_room (Nat.le_of_ble_eq_true rfl)) dX4_startAnew_77 ⟨Nat.le_of_ble_eq_true rfl, Nat.le_of_ble_eq_true rfl⟩) hS (fun q _ h => hFc q h) hFc (fun u t H1 locs ht hvm hw hB hz1 hk1 hS => ?_)
  obtain ⟨hP1, hK1, hD1⟩ := hB
  rw [ht] at hP1
  obtain ⟨hP, hD⟩ := va_join (wr := [(h0, .inr (4, [.ref (pd 0), .ref (pd 1), .ref (pd 2), .ref (pd 3), .ref (pd 4), .ref (pd 5), .ref (pd 6), .ref (pd 7), .ref (pd 8), .ref (pd 9), .ref (pd 10), .ref (pd 11), .ref (pd 12), .ref (pd 13)])), (pd 12, .inr (0, [.ref (pe 12), .int (nI 0)])), (pd 13, .inr (0, [.ref (pe 13), .int (nI 0)])), (pe 0, .inl (cI, 4, .inl (fun _ => 0))), (pe 1, .inl (cI, 4, .inl (fun _ => 0))), (pe 2, .inl (cI, 4, .inl (fun _ => 0))), (pe 3, .inl (cI, 4, .inl (fun _ => 0))), (pe 11, .inl (cI, 4, .inl (fun _ => 0))), (pd 0, .inr (0, [.ref (pe 0), .int (nI 0)])), (pd 1, .inr (0, [.ref (pe 1), .int (nI 0)])), (pd 2, .inr (0, [.ref (pe 2), .int (nI 0)])), (pd 3, .inr (0, [.ref (pe 3), .int (nI 0)])), (pd 4, .inr (0, [.ref (pe 4), .int (nI 0)])), (pd 5, .inr (0, [.ref (pe 5), .int (nI 0)])), (pd 6, .inr (0, [.ref (pe 6), .int (nI 0)])), (pd 7, .inr (0, [.ref (pe 7), .int (nI 0)])), (pd 8, .inr (0, [.ref (pe 8), .int (nI 0)]))]) (w1 := [(pd 11, .inr (0, [.ref (pe 11), .int (nI 0)]))]) hP hD [1] [0, 2, 3, 4, 5, 6, 7, 8, 9, 10, 11, 12, 13, 14, 15, 16, 17] rfl rfl (by decide) (by decide) hk1 hFc hP1 hD1
  generalize H1 = H at hP hS ⊢
  have hP : va_P (dC, dI) vwCl [(h0, .inr (4, [.ref (pd 0), .ref (pd 1), .ref (pd 2), .ref (pd 3), .ref (pd 4), .ref (pd 5), .ref (pd 6), .ref (pd 7), .ref (pd 8), .ref (pd 9), .ref (pd 10), .ref (pd 11), .ref (pd 12), .ref (pd 13)])), (pd 12, .inr (0, [.ref (pe 12), .int (nI 0)])), (pd 13, .inr (0, [.ref (pe 13), .int (nI 0)])), (pe 0, .inl (cI, 4, .inl (fun _ => 0))), (pe 1, .inl (cI, 4, .inl (fun _ => 0))), (pe 2, .inl (cI, 4, .inl (fun _ => 0))), (pe 3, .inl (cI, 4, .inl (fun _ => 0))), (pe 11, .inl (cI, 4, .inl (fun _ => 0))), (pd 0, .inr (0, [.ref (pe 0), .int (nI 0)])), (pd 1, .inr (0, [.ref (pe 1), .int (nI 0)])), (pd 2, .inr (0, [.ref (pe 2), .int (nI 0)])), (pd 3, .inr (0, [.ref (pe 3), .int (nI 0)])), (pd 4, .inr (0, [.ref (pe 4), .int (nI 0)])), (pd 5, .inr (0, [.ref (pe 5), .int (nI 0)])), (pd 6, .inr (0, [.ref (pe 6), .int (nI 0)])), (pd 7, .inr (0, [.ref (pe 7), .int (nI 0)])), (pd 8, .inr (0, [.ref (pe 8), .int (nI 0)])), (pd 11, .inr (0, [.ref (pe 11), .int (nI 0)]))] H := hP
  have hD : va_D A [(h0, .inr (4, [.ref (pd 0), .ref (pd 1), .ref (pd 2), .ref (pd 3), .ref (pd 4), .ref (pd 5), .ref (pd 6), .ref (pd 7), .ref (pd 8), .ref (pd 9), .ref (pd 10), .ref (pd 11), .ref (pd 12), .ref (pd 13)])), (pd 12, .inr (0, [.ref (pe 12), .int (nI 0)])), (pd 13, .inr (0, [.ref (pe 13), .int (nI 0)])), (pe 0, .inl (cI, 4, .inl (fun _ => 0))), (pe 1, .inl (cI, 4, .inl (fun _ => 0))), (pe 2, .inl (cI, 4, .inl (fun _ => 0))), (pe 3, .inl (cI, 4, .inl (fun _ => 0))), (pe 11, .inl (cI, 4, .inl (fun _ => 0))), (pd 0, .inr (0, [.ref (pe 0), .int (nI 0)])), (pd 1, .inr (0, [.ref (pe 1), .int (nI 0)])), (pd 2, .inr (0, [.ref (pe 2), .int (nI 0)])), (pd 3, .inr (0, [.ref (pe 3), .int (nI 0)])), (pd 4, .inr (0, [.ref (pe 4), .int (nI 0)])), (pd 5, .inr (0, [.ref (pe 5), .int (nI 0)])), (pd 6, .inr (0, [.ref (pe 6), .int (nI 0)])), (pd 7, .inr (0, [.ref (pe 7), .int (nI 0)])), (pd 8, .inr (0, [.ref (pe 8), .int (nI 0)])), (pd 11, .inr (0, [.ref (pe 11), .int (nI 0)]))] := hD
  refine W.widen (k := 0) (n := 0) (Nat.le_of_ble_eq_true rfl) (Nat.le_of_ble_eq_true rfl) ?_
  refine lv_aload_n hx hb dX4_startAnew_80 rfl (lv_at hl 0 rfl) ?_
  refine va_get (D := (dC, dI)) (ci := 4) (v := .ref (pd 12)) (C := RX4) (T := TX4) (N := 14) hx hb hts (fun w h => List.mem_cons_of_mem _ (List.mem_append_left _ (List.mem_append_right _ h))) hown hK hP 0 rfl rfl 12 (by decide) (hts (.fieldLink RX4 52 "PolarTypes$Types" "askedHighs" "LPolarTypes$Row;") (List.mem_of_getElem? (i := 11) (by decide +kernel))) (fun _ h9 => h9) rfl dX4_startAnew_81 ?_
  refine lv_iconst (v := 0) hx hb dX4_startAnew_84 (by decide) ?_
  have hPc := hP.sub (ws' := [(pd 12, .inr (0, [.ref (pe 12), .int (nI 0)]))]) [1] rfl
  have hDc := hD.sub (ws' := [(pd 12, .inr (0, [.ref (pe 12), .int (nI 0)]))]) [1] (by decide) rfl
  have hFc := va_free (wc := [(pd 12, .inr (0, [.ref (pe 12), .int (nI 0)]))]) hD hS hA [1] rfl
  refine va_callv (va_runV (As := [.int 0]) (rest := []) ⟨hx, hb, hml, hown, hts⟩ (c_Row_cut0 l dC dI cI (pd 12) (pe 12) H.size) (cwV 1 hts gX4_startAnew_X0_cutTo rfl rfl rfl (by decide +kernel) ⟨Nat.le_of_ble_eq_true rfl, Nat.le_of_ble_eq_true rfl⟩) ⟨fun a U g mk q => by obtain ⟨q0, q1, qP, qK, qD⟩ := q; exact ⟨q0, q1, qP, va_K.moved (u := U) (U := U.calling g mk a) (Vm.Alike.refl U.vm) qK, qD⟩, va_recv hK hPc (ci := 0) (q0 := 0) rfl rfl, fun U hU hW => ⟨rfl, by rw [hU], by rw [hU]; exact hPc, va_K.moved hW.alike hK, hDc.weaken (fun _ _ _ _ => trivial)⟩⟩ rfl rfl hl.1 rfl (lv_room (Nat.le_of_ble_eq_true rfl)) dX4_startAnew_85 ⟨Nat.le_of_ble_eq_true rfl, Nat.le_of_ble_eq_true rfl⟩) hS (fun q _ h => hFc q h) hFc (fun u t H1 locs ht hvm hw hB hz1 hk1 hS => ?_)
  obtain ⟨hP1, hK1, hD1⟩ := hB
  rw [ht] at hP1
  obtain ⟨hP, hD⟩ := va_join (wr := [(h0, .inr (4, [.ref (pd 0), .ref (pd 1), .ref (pd 2), .ref (pd 3), .ref (pd 4), .ref (pd 5), .ref (pd 6), .ref (pd 7), .ref (pd 8), .ref (pd 9), .ref (pd 10), .ref (pd 11), .ref (pd 12), .ref (pd 13)])), (pd 13, .inr (0, [.ref (pe 13), .int (nI 0)])), (pe 0, .inl (cI, 4, .inl (fun _ => 0))), (pe 1, .inl (cI, 4, .inl (fun _ => 0))), (pe 2, .inl (cI, 4, .inl (fun _ => 0))), (pe 3, .inl (cI, 4, .inl (fun _ => 0))), (pe 11, .inl (cI, 4, .inl (fun _ => 0))), (pd 0, .inr (0, [.ref (pe 0), .int (nI 0)])), (pd 1, .inr (0, [.ref (pe 1), .int (nI 0)])), (pd 2, .inr (0, [.ref (pe 2), .int (nI 0)])), (pd 3, .inr (0, [.ref (pe 3), .int (nI 0)])), (pd 4, .inr (0, [.ref (pe 4), .int (nI 0)])), (pd 5, .inr (0, [.ref (pe 5), .int (nI 0)])), (pd 6, .inr (0, [.ref (pe 6), .int (nI 0)])), (pd 7, .inr (0, [.ref (pe 7), .int (nI 0)])), (pd 8, .inr (0, [.ref (pe 8), .int (nI 0)])), (pd 11, .inr (0, [.ref (pe 11), .int (nI 0)]))]) (w1 := [(pd 12, .inr (0, [.ref (pe 12), .int (nI 0)]))]) hP hD [1] [0, 2, 3, 4, 5, 6, 7, 8, 9, 10, 11, 12, 13, 14, 15, 16, 17] rfl rfl (by decide) (by decide) hk1 hFc hP1 hD1
  generalize H1 = H at hP hS ⊢
  have hP : va_P (dC, dI) vwCl [(h0, .inr (4, [.ref (pd 0), .ref (pd 1), .ref (pd 2), .ref (pd 3), .ref (pd 4), .ref (pd 5), .ref (pd 6), .ref (pd 7), .ref (pd 8), .ref (pd 9), .ref (pd 10), .ref (pd 11), .ref (pd 12), .ref (pd 13)])), (pd 13, .inr (0, [.ref (pe 13), .int (nI 0)])), (pe 0, .inl (cI, 4, .inl (fun _ => 0))), (pe 1, .inl (cI, 4, .inl (fun _ => 0))), (pe 2, .inl (cI, 4, .inl (fun _ => 0))), (pe 3, .inl (cI, 4, .inl (fun _ => 0))), (pe 11, .inl (cI, 4, .inl (fun _ => 0))), (pd 0, .inr (0, [.ref (pe 0), .int (nI 0)])), (pd 1, .inr (0, [.ref (pe 1), .int (nI 0)])), (pd 2, .inr (0, [.ref (pe 2), .int (nI 0)])), (pd 3, .inr (0, [.ref (pe 3), .int (nI 0)])), (pd 4, .inr (0, [.ref (pe 4), .int (nI 0)])), (pd 5, .inr (0, [.ref (pe 5), .int (nI 0)])), (pd 6, .inr (0, [.ref (pe 6), .int (nI 0)])), (pd 7, .inr (0, [.ref (pe 7), .int (nI 0)])), (pd 8, .inr (0, [.ref (pe 8), .int (nI 0)])), (pd 11, .inr (0, [.ref (pe 11), .int (nI 0)])), (pd 12, .inr (0, [.ref (pe 12), .int (nI 0)]))] H := hP
  have hD : va_D A [(h0, .inr (4, [.ref (pd 0), .ref (pd 1), .ref (pd 2), .ref (pd 3), .ref (pd 4), .ref (pd 5), .ref (pd 6), .ref (pd 7), .ref (pd 8), .ref (pd 9), .ref (pd 10), .ref (pd 11), .ref (pd 12), .ref (pd 13)])), (pd 13, .inr (0, [.ref (pe 13), .int (nI 0)])), (pe 0, .inl (cI, 4, .inl (fun _ => 0))), (pe 1, .inl (cI, 4, .inl (fun _ => 0))), (pe 2, .inl (cI, 4, .inl (fun _ => 0))), (pe 3, .inl (cI, 4, .inl (fun _ => 0))), (pe 11, .inl (cI, 4, .inl (fun _ => 0))), (pd 0, .inr (0, [.ref (pe 0), .int (nI 0)])), (pd 1, .inr (0, [.ref (pe 1), .int (nI 0)])), (pd 2, .inr (0, [.ref (pe 2), .int (nI 0)])), (pd 3, .inr (0, [.ref (pe 3), .int (nI 0)])), (pd 4, .inr (0, [.ref (pe 4), .int (nI 0)])), (pd 5, .inr (0, [.ref (pe 5), .int (nI 0)])), (pd 6, .inr (0, [.ref (pe 6), .int (nI 0)])), (pd 7, .inr (0, [.ref (pe 7), .int (nI 0)])), (pd 8, .inr (0, [.ref (pe 8), .int (nI 0)])), (pd 11, .inr (0, [.ref (pe 11), .int (nI 0)])), (pd 12, .inr (0, [.ref (pe 12), .int (nI 0)]))] := hD
  refine W.widen (k := 0) (n := 0) (Nat.le_of_ble_eq_true rfl) (Nat.le_of_ble_eq_true rfl) ?_
  refine lv_aload_n hx hb dX4_startAnew_88 rfl (lv_at hl 0 rfl) ?_
  refine va_get (D := (dC, dI)) (ci := 4) (v := .ref (pd 13)) (C := RX4) (T := TX4) (N := 14) hx hb hts (fun w h => List.mem_cons_of_mem _ (List.mem_append_left _ (List.mem_append_right _ h))) hown hK hP 0 rfl rfl 13 (by decide) (hts (.fieldLink RX4 55 "PolarTypes$Types" "askedAhead" "LPolarTypes$Row;") (List.mem_of_getElem? (i := 12) (by decide +kernel))) (fun _ h9 => h9) rfl dX4_startAnew_89 ?_
  refine lv_iconst (v := 0) hx hb dX4_startAnew_92 (by decide) ?_
  have hPc := hP.sub (ws' := [(pd 13, .inr (0, [.ref (pe 13), .int (nI 0)]))]) [1] rfl
  have hDc := hD.sub (ws' := [(pd 13, .inr (0, [.ref (pe 13), .int (nI 0)]))]) [1] (by decide) rfl
  have hFc := va_free (wc := [(pd 13, .inr (0, [.ref (pe 13), .int (nI 0)]))]) hD hS hA [1] rfl
  refine va_callv (va_runV (As := [.int 0]) (rest := []) ⟨hx, hb, hml, hown, hts⟩ (c_Row_cut0 l dC dI cI (pd 13) (pe 13) H.size) (cwV 1 hts gX4_startAnew_X0_cutTo rfl rfl rfl (by decide +kernel) ⟨Nat.le_of_ble_eq_true rfl, Nat.le_of_ble_eq_true rfl⟩) ⟨fun a U g mk q => by obtain ⟨q0, q1, qP, qK, qD⟩ := q; exact ⟨q0, q1, qP, va_K.moved (u := U) (U := U.calling g mk a) (Vm.Alike.refl U.vm) qK, qD⟩, va_recv hK hPc (ci := 0) (q0 := 0) rfl rfl, fun U hU hW => ⟨rfl, by rw [hU], by rw [hU]; exact hPc, va_K.moved hW.alike hK, hDc.weaken (fun _ _ _ _ => trivial)⟩⟩ rfl rfl hl.1 rfl (lv_room (Nat.le_of_ble_eq_true rfl)) dX4_startAnew_93 ⟨Nat.le_of_ble_eq_true rfl, Nat.le_of_ble_eq_true rfl⟩) hS (fun q _ h => hFc q h) hFc (fun u t H1 locs ht hvm hw hB hz1 hk1 hS => ?_)
  obtain ⟨hP1, hK1, hD1⟩ := hB
  rw [ht] at hP1
  obtain ⟨hP, hD⟩ := va_join (wr := [(h0, .inr (4, [.ref (pd 0), .ref (pd 1), .ref (pd 2), .ref (pd 3), .ref (pd 4), .ref (pd 5), .ref (pd 6), .ref (pd 7), .ref (pd 8), .ref (pd 9), .ref (pd 10), .ref (pd 11), .ref (pd 12), .ref (pd 13)])), (pe 0, .inl (cI, 4, .inl (fun _ => 0))), (pe 1, .inl (cI, 4, .inl (fun _ => 0))), (pe 2, .inl (cI, 4, .inl (fun _ => 0))), (pe 3, .inl (cI, 4, .inl (fun _ => 0))), (pe 11, .inl (cI, 4, .inl (fun _ => 0))), (pd 0, .inr (0, [.ref (pe 0), .int (nI 0)])), (pd 1, .inr (0, [.ref (pe 1), .int (nI 0)])), (pd 2, .inr (0, [.ref (pe 2), .int (nI 0)])), (pd 3, .inr (0, [.ref (pe 3), .int (nI 0)])), (pd 4, .inr (0, [.ref (pe 4), .int (nI 0)])), (pd 5, .inr (0, [.ref (pe 5), .int (nI 0)])), (pd 6, .inr (0, [.ref (pe 6), .int (nI 0)])), (pd 7, .inr (0, [.ref (pe 7), .int (nI 0)])), (pd 8, .inr (0, [.ref (pe 8), .int (nI 0)])), (pd 11, .inr (0, [.ref (pe 11), .int (nI 0)])), (pd 12, .inr (0, [.ref (pe 12), .int (nI 0)]))]) (w1 := [(pd 13, .inr (0, [.ref (pe 13), .int (nI 0)]))]) hP hD [1] [0, 2, 3, 4, 5, 6, 7, 8, 9, 10, 11, 12, 13, 14, 15, 16, 17] rfl rfl (by decide) (by decide) hk1 hFc hP1 hD1
  generalize H1 = H at hP hS ⊢
  have hP : va_P (dC, dI) vwCl [(h0, .inr (4, [.ref (pd 0), .ref (pd 1), .ref (pd 2), .ref (pd 3), .ref (pd 4), .ref (pd 5), .ref (pd 6), .ref (pd 7), .ref (pd 8), .ref (pd 9), .ref (pd 10), .ref (pd 11), .ref (pd 12), .ref (pd 13)])), (pe 0, .inl (cI, 4, .inl (fun _ => 0))), (pe 1, .inl (cI, 4, .inl (fun _ => 0))), (pe 2, .inl (cI, 4, .inl (fun _ => 0))), (pe 3, .inl (cI, 4, .inl (fun _ => 0))), (pe 11, .inl (cI, 4, .inl (fun _ => 0))), (pd 0, .inr (0, [.ref (pe 0), .int (nI 0)])), (pd 1, .inr (0, [.ref (pe 1), .int (nI 0)])), (pd 2, .inr (0, [.ref (pe 2), .int (nI 0)])), (pd 3, .inr (0, [.ref (pe 3), .int (nI 0)])), (pd 4, .inr (0, [.ref (pe 4), .int (nI 0)])), (pd 5, .inr (0, [.ref (pe 5), .int (nI 0)])), (pd 6, .inr (0, [.ref (pe 6), .int (nI 0)])), (pd 7, .inr (0, [.ref (pe 7), .int (nI 0)])), (pd 8, .inr (0, [.ref (pe 8), .int (nI 0)])), (pd 11, .inr (0, [.ref (pe 11), .int (nI 0)])), (pd 12, .inr (0, [.ref (pe 12), .int (nI 0)])), (pd 13, .inr (0, [.ref (pe 13), .int (nI 0)]))] H := hP
  have hD : va_D A [(h0, .inr (4, [.ref (pd 0), .ref (pd 1), .ref (pd 2), .ref (pd 3), .ref (pd 4), .ref (pd 5), .ref (pd 6), .ref (pd 7), .ref (pd 8), .ref (pd 9), .ref (pd 10), .ref (pd 11), .ref (pd 12), .ref (pd 13)])), (pe 0, .inl (cI, 4, .inl (fun _ => 0))), (pe 1, .inl (cI, 4, .inl (fun _ => 0))), (pe 2, .inl (cI, 4, .inl (fun _ => 0))), (pe 3, .inl (cI, 4, .inl (fun _ => 0))), (pe 11, .inl (cI, 4, .inl (fun _ => 0))), (pd 0, .inr (0, [.ref (pe 0), .int (nI 0)])), (pd 1, .inr (0, [.ref (pe 1), .int (nI 0)])), (pd 2, .inr (0, [.ref (pe 2), .int (nI 0)])), (pd 3, .inr (0, [.ref (pe 3), .int (nI 0)])), (pd 4, .inr (0, [.ref (pe 4), .int (nI 0)])), (pd 5, .inr (0, [.ref (pe 5), .int (nI 0)])), (pd 6, .inr (0, [.ref (pe 6), .int (nI 0)])), (pd 7, .inr (0, [.ref (pe 7), .int (nI 0)])), (pd 8, .inr (0, [.ref (pe 8), .int (nI 0)])), (pd 11, .inr (0, [.ref (pe 11), .int (nI 0)])), (pd 12, .inr (0, [.ref (pe 12), .int (nI 0)])), (pd 13, .inr (0, [.ref (pe 13), .int (nI 0)]))] := hD
  refine W.widen (k := 0) (n := 0) (Nat.le_of_ble_eq_true rfl) (Nat.le_of_ble_eq_true rfl) ?_
  refine lv_aload_n hx hb dX4_startAnew_96 rfl (lv_at hl 0 rfl) ?_
  refine lv_iconst (v := 0) hx hb dX4_startAnew_97 (by decide) ?_
  refine lv_iconst (v := 0) hx hb dX4_startAnew_98 (by decide) ?_
  refine lv_bipush (v := (-9)) hx hb dX4_startAnew_99 (by decide) ?_
  refine lv_bipush (v := (-9)) hx hb dX4_startAnew_101 (by decide) ?_
  have hPc := hP.sub (ws' := [(h0, .inr (4, [.ref (pd 0), .ref (pd 1), .ref (pd 2), .ref (pd 3), .ref (pd 4), .ref (pd 5), .ref (pd 6), .ref (pd 7), .ref (pd 8), .ref (pd 9), .ref (pd 10), .ref (pd 11), .ref (pd 12), .ref (pd 13)])), (pd 0, .inr (0, [.ref (pe 0), .int (nI 0)])), (pe 0, .inl (cI, 4, .inl (fun _ => 0))), (pd 1, .inr (0, [.ref (pe 1), .int (nI 0)])), (pe 1, .inl (cI, 4, .inl (fun _ => 0))), (pd 2, .inr (0, [.ref (pe 2), .int (nI 0)])), (pe 2, .inl (cI, 4, .inl (fun _ => 0))), (pd 3, .inr (0, [.ref (pe 3), .int (nI 0)])), (pe 3, .inl (cI, 4, .inl (fun _ => 0))), (pd 11, .inr (0, [.ref (pe 11), .int (nI 0)])), (pe 11, .inl (cI, 4, .inl (fun _ => 0)))]) [0, 6, 1, 7, 2, 8, 3, 9, 4, 15, 5] rfl
  have hDc := hD.sub (ws' := [(h0, .inr (4, [.ref (pd 0), .ref (pd 1), .ref (pd 2), .ref (pd 3), .ref (pd 4), .ref (pd 5), .ref (pd 6), .ref (pd 7), .ref (pd 8), .ref (pd 9), .ref (pd 10), .ref (pd 11), .ref (pd 12), .ref (pd 13)])), (pd 0, .inr (0, [.ref (pe 0), .int (nI 0)])), (pe 0, .inl (cI, 4, .inl (fun _ => 0))), (pd 1, .inr (0, [.ref (pe 1), .int (nI 0)])), (pe 1, .inl (cI, 4, .inl (fun _ => 0))), (pd 2, .inr (0, [.ref (pe 2), .int (nI 0)])), (pe 2, .inl (cI, 4, .inl (fun _ => 0))), (pd 3, .inr (0, [.ref (pe 3), .int (nI 0)])), (pe 3, .inl (cI, 4, .inl (fun _ => 0))), (pd 11, .inr (0, [.ref (pe 11), .int (nI 0)])), (pe 11, .inl (cI, 4, .inl (fun _ => 0)))]) [0, 6, 1, 7, 2, 8, 3, 9, 4, 15, 5] (by decide) rfl
  have hFc := va_free (wc := [(h0, .inr (4, [.ref (pd 0), .ref (pd 1), .ref (pd 2), .ref (pd 3), .ref (pd 4), .ref (pd 5), .ref (pd 6), .ref (pd 7), .ref (pd 8), .ref (pd 9), .ref (pd 10), .ref (pd 11), .ref (pd 12), .ref (pd 13)])), (pd 0, .inr (0, [.ref (pe 0), .int (nI 0)])), (pe 0, .inl (cI, 4, .inl (fun _ => 0))), (pd 1, .inr (0, [.ref (pe 1), .int (nI 0)])), (pe 1, .inl (cI, 4, .inl (fun _ => 0))), (pd 2, .inr (0, [.ref (pe 2), .int (nI 0)])), (pe 2, .inl (cI, 4, .inl (fun _ => 0))), (pd 3, .inr (0, [.ref (pe 3), .int (nI 0)])), (pe 3, .inl (cI, 4, .inl (fun _ => 0))), (pd 11, .inr (0, [.ref (pe 11), .int (nI 0)])), (pe 11, .inl (cI, 4, .inl (fun _ => 0)))]) hD hS hA [0, 6, 1, 7, 2, 8, 3, 9, 4, 15, 5] rfl
  refine va_calli (va_runV (As := [.int 0, .int 0, .int ((-9)), .int ((-9))]) (rest := []) ⟨hx, hb, hml, hown, hts⟩ (c_addType_0 l dC dI cI h0 pd pe 4 4 4 4 4 (fun _ => 0) (fun _ => 0) (fun _ => 0) (fun _ => 0) (fun _ => 0) 0 0 ((-9)) ((-9)) (⟨by decide, by decide⟩) (⟨by decide, by decide⟩) (⟨by decide, by decide⟩) (⟨by decide, by decide⟩) (⟨by decide, by decide⟩) H.size) (cwV 4 hts gX4_startAnew_X4_addType rfl rfl rfl (by decide +kernel) ⟨Nat.le_of_ble_eq_true rfl, Nat.le_of_ble_eq_true rfl⟩) ⟨fun a U g mk q => by obtain ⟨q0, q1, qP, qK, qD⟩ := q; exact ⟨q0, q1, qP, va_K.moved (u := U) (U := U.calling g mk a) (Vm.Alike.refl U.vm) qK, qD⟩, va_recv hK hPc (ci := 4) (q0 := 0) rfl rfl, fun U hU hW => ⟨rfl, by rw [hU], by rw [hU]; exact hPc, va_K.moved hW.alike hK, hDc.weaken (fun _ _ _ _ => trivial)⟩⟩ rfl rfl hl.1 rfl (lv_room (Nat.le_of_ble_eq_true rfl)) dX4_startAnew_103 ⟨Nat.le_of_ble_eq_true rfl, Nat.le_of_ble_eq_true rfl⟩) hS (fun q _ h => hFc q h) hFc (fun r_13 u t H1 locs ht hvm hw hB hz1 hk1 hS => ?_)
  obtain ⟨y_14, y_15, y_16, y_17, y_18, y_19, y_20, y_21, y_22, y_23, y_24, y_25, y_26, y_27, y_28, p_29, p_30, p_31, p_32, p_33, hP1, hK1, hD1⟩ := hB
  rw [ht] at hP1
  obtain ⟨hP, hD⟩ := va_join (wr := [(pd 4, .inr (0, [.ref (pe 4), .int (nI 0)])), (pd 5, .inr (0, [.ref (pe 5), .int (nI 0)])), (pd 6, .inr (0, [.ref (pe 6), .int (nI 0)])), (pd 7, .inr (0, [.ref (pe 7), .int (nI 0)])), (pd 8, .inr (0, [.ref (pe 8), .int (nI 0)])), (pd 12, .inr (0, [.ref (pe 12), .int (nI 0)])), (pd 13, .inr (0, [.ref (pe 13), .int (nI 0)]))]) (w1 := [(h0, .inr (4, [.ref (pd 0), .ref (pd 1), .ref (pd 2), .ref (pd 3), .ref (pd 4), .ref (pd 5), .ref (pd 6), .ref (pd 7), .ref (pd 8), .ref (pd 9), .ref (pd 10), .ref (pd 11), .ref (pd 12), .ref (pd 13)])), (pd 0, .inr (0, [.ref y_14, .int (nI 1)])), (y_14, .inl (cI, y_19, .inl y_24)), (pd 1, .inr (0, [.ref y_15, .int (nI 1)])), (y_15, .inl (cI, y_20, .inl y_25)), (pd 2, .inr (0, [.ref y_16, .int (nI 1)])), (y_16, .inl (cI, y_21, .inl y_26)), (pd 3, .inr (0, [.ref y_17, .int (nI 1)])), (y_17, .inl (cI, y_22, .inl y_27)), (pd 11, .inr (0, [.ref y_18, .int (nI 1)])), (y_18, .inl (cI, y_23, .inl y_28))]) hP hD [0, 6, 1, 7, 2, 8, 3, 9, 4, 15, 5] [10, 11, 12, 13, 14, 16, 17] rfl rfl (by decide) (by decide) hk1 hFc hP1 hD1
  generalize H1 = H at hP hS ⊢
  obtain rfl : r_13 = 0 := hw
  have hP : va_P (dC, dI) vwCl [(pd 4, .inr (0, [.ref (pe 4), .int (nI 0)])), (pd 5, .inr (0, [.ref (pe 5), .int (nI 0)])), (pd 6, .inr (0, [.ref (pe 6), .int (nI 0)])), (pd 7, .inr (0, [.ref (pe 7), .int (nI 0)])), (pd 8, .inr (0, [.ref (pe 8), .int (nI 0)])), (pd 12, .inr (0, [.ref (pe 12), .int (nI 0)])), (pd 13, .inr (0, [.ref (pe 13), .int (nI 0)])), (h0, .inr (4, [.ref (pd 0), .ref (pd 1), .ref (pd 2), .ref (pd 3), .ref (pd 4), .ref (pd 5), .ref (pd 6), .ref (pd 7), .ref (pd 8), .ref (pd 9), .ref (pd 10), .ref (pd 11), .ref (pd 12), .ref (pd 13)])), (pd 0, .inr (0, [.ref y_14, .int (nI 1)])), (y_14, .inl (cI, y_19, .inl y_24)), (pd 1, .inr (0, [.ref y_15, .int (nI 1)])), (y_15, .inl (cI, y_20, .inl y_25)), (pd 2, .inr (0, [.ref y_16, .int (nI 1)])), (y_16, .inl (cI, y_21, .inl y_26)), (pd 3, .inr (0, [.ref y_17, .int (nI 1)])), (y_17, .inl (cI, y_22, .inl y_27)), (pd 11, .inr (0, [.ref y_18, .int (nI 1)])), (y_18, .inl (cI, y_23, .inl y_28))] H := hP
  have hD : va_D A [(pd 4, .inr (0, [.ref (pe 4), .int (nI 0)])), (pd 5, .inr (0, [.ref (pe 5), .int (nI 0)])), (pd 6, .inr (0, [.ref (pe 6), .int (nI 0)])), (pd 7, .inr (0, [.ref (pe 7), .int (nI 0)])), (pd 8, .inr (0, [.ref (pe 8), .int (nI 0)])), (pd 12, .inr (0, [.ref (pe 12), .int (nI 0)])), (pd 13, .inr (0, [.ref (pe 13), .int (nI 0)])), (h0, .inr (4, [.ref (pd 0), .ref (pd 1), .ref (pd 2), .ref (pd 3), .ref (pd 4), .ref (pd 5), .ref (pd 6), .ref (pd 7), .ref (pd 8), .ref (pd 9), .ref (pd 10), .ref (pd 11), .ref (pd 12), .ref (pd 13)])), (pd 0, .inr (0, [.ref y_14, .int (nI 1)])), (y_14, .inl (cI, y_19, .inl y_24)), (pd 1, .inr (0, [.ref y_15, .int (nI 1)])), (y_15, .inl (cI, y_20, .inl y_25)), (pd 2, .inr (0, [.ref y_16, .int (nI 1)])), (y_16, .inl (cI, y_21, .inl y_26)), (pd 3, .inr (0, [.ref y_17, .int (nI 1)])), (y_17, .inl (cI, y_22, .inl y_27)), (pd 11, .inr (0, [.ref y_18, .int (nI 1)])), (y_18, .inl (cI, y_23, .inl y_28))] := hD
  refine W.widen (k := 5) (n := 3020) (Nat.le_of_ble_eq_true rfl) (Nat.le_of_ble_eq_true rfl) ?_
  refine lv_pop hx hb dX4_startAnew_106 rfl ?_
  refine lv_aload_n hx hb dX4_startAnew_107 rfl (lv_at hl 0 rfl) ?_
  refine lv_iconst (v := 1) hx hb dX4_startAnew_108 (by decide) ?_
  refine lv_iconst (v := 0) hx hb dX4_startAnew_109 (by decide) ?_
  refine lv_bipush (v := (-9)) hx hb dX4_startAnew_110 (by decide) ?_
  refine lv_bipush (v := (-9)) hx hb dX4_startAnew_112 (by decide) ?_
  have hPc := hP.sub (ws' := [(h0, .inr (4, [.ref (pd 0), .ref (pd 1), .ref (pd 2), .ref (pd 3), .ref (pd 4), .ref (pd 5), .ref (pd 6), .ref (pd 7), .ref (pd 8), .ref (pd 9), .ref (pd 10), .ref (pd 11), .ref (pd 12), .ref (pd 13)])), (pd 0, .inr (0, [.ref y_14, .int (nI 1)])), (y_14, .inl (cI, y_19, .inl y_24)), (pd 1, .inr (0, [.ref y_15, .int (nI 1)])), (y_15, .inl (cI, y_20, .inl y_25)), (pd 2, .inr (0, [.ref y_16, .int (nI 1)])), (y_16, .inl (cI, y_21, .inl y_26)), (pd 3, .inr (0, [.ref y_17, .int (nI 1)])), (y_17, .inl (cI, y_22, .inl y_27)), (pd 11, .inr (0, [.ref y_18, .int (nI 1)])), (y_18, .inl (cI, y_23, .inl y_28))]) [7, 8, 9, 10, 11, 12, 13, 14, 15, 16, 17] rfl
  have hDc := hD.sub (ws' := [(h0, .inr (4, [.ref (pd 0), .ref (pd 1), .ref (pd 2), .ref (pd 3), .ref (pd 4), .ref (pd 5), .ref (pd 6), .ref (pd 7), .ref (pd 8), .ref (pd 9), .ref (pd 10), .ref (pd 11), .ref (pd 12), .ref (pd 13)])), (pd 0, .inr (0, [.ref y_14, .int (nI 1)])), (y_14, .inl (cI, y_19, .inl y_24)), (pd 1, .inr (0, [.ref y_15, .int (nI 1)])), (y_15, .inl (cI, y_20, .inl y_25)), (pd 2, .inr (0, [.ref y_16, .int (nI 1)])), (y_16, .inl (cI, y_21, .inl y_26)), (pd 3, .inr (0, [.ref y_17, .int (nI 1)])), (y_17, .inl (cI, y_22, .inl y_27)), (pd 11, .inr (0, [.ref y_18, .int (nI 1)])), (y_18, .inl (cI, y_23, .inl y_28))]) [7, 8, 9, 10, 11, 12, 13, 14, 15, 16, 17] (by decide) rfl
  have hFc := va_free (wc := [(h0, .inr (4, [.ref (pd 0), .ref (pd 1), .ref (pd 2), .ref (pd 3), .ref (pd 4), .ref (pd 5), .ref (pd 6), .ref (pd 7), .ref (pd 8), .ref (pd 9), .ref (pd 10), .ref (pd 11), .ref (pd 12), .ref (pd 13)])), (pd 0, .inr (0, [.ref y_14, .int (nI 1)])), (y_14, .inl (cI, y_19, .inl y_24)), (pd 1, .inr (0, [.ref y_15, .int (nI 1)])), (y_15, .inl (cI, y_20, .inl y_25)), (pd 2, .inr (0, [.ref y_16, .int (nI 1)])), (y_16, .inl (cI, y_21, .inl y_26)), (pd 3, .inr (0, [.ref y_17, .int (nI 1)])), (y_17, .inl (cI, y_22, .inl y_27)), (pd 11, .inr (0, [.ref y_18, .int (nI 1)])), (y_18, .inl (cI, y_23, .inl y_28))]) hD hS hA [7, 8, 9, 10, 11, 12, 13, 14, 15, 16, 17] rfl
  refine va_calli (va_runV (As := [.int 1, .int 0, .int ((-9)), .int ((-9))]) (rest := []) ⟨hx, hb, hml, hown, hts⟩ (c_addType_1 l dC dI cI h0 pd ((fun k => [y_14, y_15, y_16, y_17, 0, 0, 0, 0, 0, 0, 0, y_18].getD k 0)) y_19 y_20 y_21 y_22 y_23 y_24 y_25 y_26 y_27 y_28 1 0 ((-9)) ((-9)) p_29 p_30 p_31 p_32 p_33 H.size) (cwV 4 hts gX4_startAnew_X4_addType rfl rfl rfl (by decide +kernel) ⟨Nat.le_of_ble_eq_true rfl, Nat.le_of_ble_eq_true rfl⟩) ⟨fun a U g mk q => by obtain ⟨q0, q1, qP, qK, qD⟩ := q; exact ⟨q0, q1, qP, va_K.moved (u := U) (U := U.calling g mk a) (Vm.Alike.refl U.vm) qK, qD⟩, va_recv hK hPc (ci := 4) (q0 := 0) rfl rfl, fun U hU hW => ⟨rfl, by rw [hU], by rw [hU]; exact hPc, va_K.moved hW.alike hK, hDc.weaken (fun _ _ _ _ => trivial)⟩⟩ rfl rfl hl.1 rfl (lv_room (Nat.le_of_ble_eq_true rfl)) dX4_startAnew_114 ⟨Nat.le_of_ble_eq_true rfl, Nat.le_of_ble_eq_true rfl⟩) hS (fun q _ h => hFc q h) hFc (fun r_34 u t H1 locs ht hvm hw hB hz1 hk1 hS => ?_)
  obtain ⟨y_35, y_36, y_37, y_38, y_39, y_40, y_41, y_42, y_43, y_44, y_45, y_46, y_47, y_48, y_49, p_50, p_51, p_52, p_53, p_54, hP1, hK1, hD1⟩ := hB
  rw [ht] at hP1
  obtain ⟨hP, hD⟩ := va_join (wr := [(pd 4, .inr (0, [.ref (pe 4), .int (nI 0)])), (pd 5, .inr (0, [.ref (pe 5), .int (nI 0)])), (pd 6, .inr (0, [.ref (pe 6), .int (nI 0)])), (pd 7, .inr (0, [.ref (pe 7), .int (nI 0)])), (pd 8, .inr (0, [.ref (pe 8), .int (nI 0)])), (pd 12, .inr (0, [.ref (pe 12), .int (nI 0)])), (pd 13, .inr (0, [.ref (pe 13), .int (nI 0)]))]) (w1 := [(h0, .inr (4, [.ref (pd 0), .ref (pd 1), .ref (pd 2), .ref (pd 3), .ref (pd 4), .ref (pd 5), .ref (pd 6), .ref (pd 7), .ref (pd 8), .ref (pd 9), .ref (pd 10), .ref (pd 11), .ref (pd 12), .ref (pd 13)])), (pd 0, .inr (0, [.ref y_35, .int (nI 2)])), (y_35, .inl (cI, y_40, .inl y_45)), (pd 1, .inr (0, [.ref y_36, .int (nI 2)])), (y_36, .inl (cI, y_41, .inl y_46)), (pd 2, .inr (0, [.ref y_37, .int (nI 2)])), (y_37, .inl (cI, y_42, .inl y_47)), (pd 3, .inr (0, [.ref y_38, .int (nI 2)])), (y_38, .inl (cI, y_43, .inl y_48)), (pd 11, .inr (0, [.ref y_39, .int (nI 2)])), (y_39, .inl (cI, y_44, .inl y_49))]) hP hD [7, 8, 9, 10, 11, 12, 13, 14, 15, 16, 17] [0, 1, 2, 3, 4, 5, 6] rfl rfl (by decide) (by decide) hk1 hFc hP1 hD1
  generalize H1 = H at hP hS ⊢
  obtain rfl : r_34 = 1 := hw
  have hP : va_P (dC, dI) vwCl [(pd 4, .inr (0, [.ref (pe 4), .int (nI 0)])), (pd 5, .inr (0, [.ref (pe 5), .int (nI 0)])), (pd 6, .inr (0, [.ref (pe 6), .int (nI 0)])), (pd 7, .inr (0, [.ref (pe 7), .int (nI 0)])), (pd 8, .inr (0, [.ref (pe 8), .int (nI 0)])), (pd 12, .inr (0, [.ref (pe 12), .int (nI 0)])), (pd 13, .inr (0, [.ref (pe 13), .int (nI 0)])), (h0, .inr (4, [.ref (pd 0), .ref (pd 1), .ref (pd 2), .ref (pd 3), .ref (pd 4), .ref (pd 5), .ref (pd 6), .ref (pd 7), .ref (pd 8), .ref (pd 9), .ref (pd 10), .ref (pd 11), .ref (pd 12), .ref (pd 13)])), (pd 0, .inr (0, [.ref y_35, .int (nI 2)])), (y_35, .inl (cI, y_40, .inl y_45)), (pd 1, .inr (0, [.ref y_36, .int (nI 2)])), (y_36, .inl (cI, y_41, .inl y_46)), (pd 2, .inr (0, [.ref y_37, .int (nI 2)])), (y_37, .inl (cI, y_42, .inl y_47)), (pd 3, .inr (0, [.ref y_38, .int (nI 2)])), (y_38, .inl (cI, y_43, .inl y_48)), (pd 11, .inr (0, [.ref y_39, .int (nI 2)])), (y_39, .inl (cI, y_44, .inl y_49))] H := hP
  have hD : va_D A [(pd 4, .inr (0, [.ref (pe 4), .int (nI 0)])), (pd 5, .inr (0, [.ref (pe 5), .int (nI 0)])), (pd 6, .inr (0, [.ref (pe 6), .int (nI 0)])), (pd 7, .inr (0, [.ref (pe 7), .int (nI 0)])), (pd 8, .inr (0, [.ref (pe 8), .int (nI 0)])), (pd 12, .inr (0, [.ref (pe 12), .int (nI 0)])), (pd 13, .inr (0, [.ref (pe 13), .int (nI 0)])), (h0, .inr (4, [.ref (pd 0), .ref (pd 1), .ref (pd 2), .ref (pd 3), .ref (pd 4), .ref (pd 5), .ref (pd 6), .ref (pd 7), .ref (pd 8), .ref (pd 9), .ref (pd 10), .ref (pd 11), .ref (pd 12), .ref (pd 13)])), (pd 0, .inr (0, [.ref y_35, .int (nI 2)])), (y_35, .inl (cI, y_40, .inl y_45)), (pd 1, .inr (0, [.ref y_36, .int (nI 2)])), (y_36, .inl (cI, y_41, .inl y_46)), (pd 2, .inr (0, [.ref y_37, .int (nI 2)])), (y_37, .inl (cI, y_42, .inl y_47)), (pd 3, .inr (0, [.ref y_38, .int (nI 2)])), (y_38, .inl (cI, y_43, .inl y_48)), (pd 11, .inr (0, [.ref y_39, .int (nI 2)])), (y_39, .inl (cI, y_44, .inl y_49))] := hD
  refine W.widen (k := 10) (n := 6040) (Nat.le_of_ble_eq_true rfl) (Nat.le_of_ble_eq_true rfl) ?_
  refine lv_pop hx hb dX4_startAnew_117 rfl ?_
  have hP9 := hP.sub (ws' := [(h0, .inr (4, [.ref (pd 0), .ref (pd 1), .ref (pd 2), .ref (pd 3), .ref (pd 4), .ref (pd 5), .ref (pd 6), .ref (pd 7), .ref (pd 8), .ref (pd 9), .ref (pd 10), .ref (pd 11), .ref (pd 12), .ref (pd 13)])), (pd 8, .inr (0, [.ref (pe 8), .int (nI 0)]))]) [7, 4] rfl
  have hD9 := hD.sub (ws' := [(h0, .inr (4, [.ref (pd 0), .ref (pd 1), .ref (pd 2), .ref (pd 3), .ref (pd 4), .ref (pd 5), .ref (pd 6), .ref (pd 7), .ref (pd 8), .ref (pd 9), .ref (pd 10), .ref (pd 11), .ref (pd 12), .ref (pd 13)])), (pd 8, .inr (0, [.ref (pe 8), .int (nI 0)]))]) [7, 4] (by decide) rfl
  refine W.widen (k := 10) (n := 6040) (Nat.le_of_ble_eq_true rfl) (Nat.le_of_ble_eq_true rfl) ?_
  exact W.vret hx hb hr (fun t ht hW => ⟨⟨(), rfl, trivial, by rw [ht]; exact hP9, va_K.moved hW.alike hK, hD9⟩, hS.F ht⟩) hS.2.2 dX4_startAnew_118
end
