section
-- ===== PART A: goes FIRST, ahead of the names: the tables' words, and 'selects' of the private methods out of them =====
/-- a private method of a class that the tables say can be made, by its rows of tables_1 -/
def lw_okq (q : MethodName × Nat) : Prop := (q.1.cls ≠ "java/lang/invoke/MethodHandle" ∧ q.1.cls ≠ "java/lang/invoke/VarHandle") ∧ Cond.instantiable q.1.cls q.2 ∈ tables_1 ∧ Cond.privateMethod q.1 ∈ tables_1 ∧ Cond.instanceMethod q.1 ∈ tables_1
theorem lw_p0 : lw_okq (⟨"DuctRake$SavedStates", "stateAt", "(I)LDuctRake$State;"⟩, 3) := ⟨⟨by decide +kernel, by decide +kernel⟩, List.mem_of_getElem? (i := 123) (by decide +kernel), List.mem_of_getElem? (i := 240) (by decide +kernel), List.mem_of_getElem? (i := 241) (by decide +kernel)⟩
theorem lw_p1 : lw_okq (⟨"DuctRake$Told", "takeMeans", "(LDuctRake$State;)V"⟩, 7) := ⟨⟨by decide +kernel, by decide +kernel⟩, List.mem_of_getElem? (i := 174) (by decide +kernel), List.mem_of_getElem? (i := 325) (by decide +kernel), List.mem_of_getElem? (i := 326) (by decide +kernel)⟩
theorem lw_p2 : lw_okq (⟨"DuctRake$Told", "giveReasons", "(LDuctRake$State;I)V"⟩, 7) := ⟨⟨by decide +kernel, by decide +kernel⟩, List.mem_of_getElem? (i := 174) (by decide +kernel), List.mem_of_getElem? (i := 340) (by decide +kernel), List.mem_of_getElem? (i := 341) (by decide +kernel)⟩
theorem lw_p3 : lw_okq (⟨"DuctRake$Told", "reasonFor", "(IIZ)I"⟩, 7) := ⟨⟨by decide +kernel, by decide +kernel⟩, List.mem_of_getElem? (i := 174) (by decide +kernel), List.mem_of_getElem? (i := 347) (by decide +kernel), List.mem_of_getElem? (i := 348) (by decide +kernel)⟩
theorem lw_p4 : lw_okq (⟨"DuctRake$Told", "tellSpeeds", "()V"⟩, 7) := ⟨⟨by decide +kernel, by decide +kernel⟩, List.mem_of_getElem? (i := 174) (by decide +kernel), List.mem_of_getElem? (i := 351) (by decide +kernel), List.mem_of_getElem? (i := 352) (by decide +kernel)⟩
theorem lw_p5 : lw_okq (⟨"DuctRake", "worstHole", "(LDuctRake$Told;)I"⟩, 8) := ⟨⟨by decide +kernel, by decide +kernel⟩, List.mem_of_getElem? (i := 21) (by decide +kernel), List.mem_of_getElem? (i := 359) (by decide +kernel), List.mem_of_getElem? (i := 360) (by decide +kernel)⟩
theorem lw_p6 : lw_okq (⟨"DuctRake", "wholeIfRight", "(I)I"⟩, 8) := ⟨⟨by decide +kernel, by decide +kernel⟩, List.mem_of_getElem? (i := 21) (by decide +kernel), List.mem_of_getElem? (i := 370) (by decide +kernel), List.mem_of_getElem? (i := 371) (by decide +kernel)⟩
theorem lw_p7 : lw_okq (⟨"DuctRake", "countValue", "(ILDuctRake$Told;)I"⟩, 8) := ⟨⟨by decide +kernel, by decide +kernel⟩, List.mem_of_getElem? (i := 21) (by decide +kernel), List.mem_of_getElem? (i := 395) (by decide +kernel), List.mem_of_getElem? (i := 396) (by decide +kernel)⟩
theorem lw_p8 : lw_okq (⟨"DuctRake", "mixedWithHoles", "(JLDuctRake$Told;)J"⟩, 8) := ⟨⟨by decide +kernel, by decide +kernel⟩, List.mem_of_getElem? (i := 21) (by decide +kernel), List.mem_of_getElem? (i := 413) (by decide +kernel), List.mem_of_getElem? (i := 414) (by decide +kernel)⟩
theorem lw_p9 : lw_okq (⟨"DuctRake", "holeValue", "(IILDuctRake$Told;)I"⟩, 8) := ⟨⟨by decide +kernel, by decide +kernel⟩, List.mem_of_getElem? (i := 21) (by decide +kernel), List.mem_of_getElem? (i := 417) (by decide +kernel), List.mem_of_getElem? (i := 418) (by decide +kernel)⟩
theorem lw_p10 : lw_okq (⟨"DuctRake", "mixedWithReadings", "(J)J"⟩, 8) := ⟨⟨by decide +kernel, by decide +kernel⟩, List.mem_of_getElem? (i := 21) (by decide +kernel), List.mem_of_getElem? (i := 423) (by decide +kernel), List.mem_of_getElem? (i := 424) (by decide +kernel)⟩
theorem lw_p11 : lw_okq (⟨"DuctRake", "readingValue", "(II)I"⟩, 8) := ⟨⟨by decide +kernel, by decide +kernel⟩, List.mem_of_getElem? (i := 21) (by decide +kernel), List.mem_of_getElem? (i := 427) (by decide +kernel), List.mem_of_getElem? (i := 428) (by decide +kernel)⟩
theorem lw_p12 : lw_okq (⟨"DuctRake", "flowValue", "(ILDuctRake$Told;)I"⟩, 8) := ⟨⟨by decide +kernel, by decide +kernel⟩, List.mem_of_getElem? (i := 21) (by decide +kernel), List.mem_of_getElem? (i := 433) (by decide +kernel), List.mem_of_getElem? (i := 434) (by decide +kernel)⟩
theorem lw_p13 : lw_okq (⟨"DuctRake", "fewestHoles", "(I)I"⟩, 8) := ⟨⟨by decide +kernel, by decide +kernel⟩, List.mem_of_getElem? (i := 21) (by decide +kernel), List.mem_of_getElem? (i := 441) (by decide +kernel), List.mem_of_getElem? (i := 442) (by decide +kernel)⟩
theorem lw_p14 : lw_okq (⟨"DuctRake", "mixedWithBuffer", "(J)J"⟩, 8) := ⟨⟨by decide +kernel, by decide +kernel⟩, List.mem_of_getElem? (i := 21) (by decide +kernel), List.mem_of_getElem? (i := 451) (by decide +kernel), List.mem_of_getElem? (i := 452) (by decide +kernel)⟩
theorem lw_p15 : lw_okq (⟨"java/lang/Throwable", "fillInStackTrace", "(I)Ljava/lang/Throwable;"⟩, 6) := ⟨⟨by decide +kernel, by decide +kernel⟩, List.mem_of_getElem? (i := 504) (by decide +kernel), List.mem_of_getElem? (i := 502) (by decide +kernel), List.mem_of_getElem? (i := 503) (by decide +kernel)⟩
def lw_privs_1 : List (MethodName × Nat) := [(⟨"DuctRake$SavedStates", "stateAt", "(I)LDuctRake$State;"⟩, 3), (⟨"DuctRake$Told", "takeMeans", "(LDuctRake$State;)V"⟩, 7), (⟨"DuctRake$Told", "giveReasons", "(LDuctRake$State;I)V"⟩, 7), (⟨"DuctRake$Told", "reasonFor", "(IIZ)I"⟩, 7), (⟨"DuctRake$Told", "tellSpeeds", "()V"⟩, 7), (⟨"DuctRake", "worstHole", "(LDuctRake$Told;)I"⟩, 8), (⟨"DuctRake", "wholeIfRight", "(I)I"⟩, 8), (⟨"DuctRake", "countValue", "(ILDuctRake$Told;)I"⟩, 8), (⟨"DuctRake", "mixedWithHoles", "(JLDuctRake$Told;)J"⟩, 8), (⟨"DuctRake", "holeValue", "(IILDuctRake$Told;)I"⟩, 8), (⟨"DuctRake", "mixedWithReadings", "(J)J"⟩, 8), (⟨"DuctRake", "readingValue", "(II)I"⟩, 8), (⟨"DuctRake", "flowValue", "(ILDuctRake$Told;)I"⟩, 8), (⟨"DuctRake", "fewestHoles", "(I)I"⟩, 8), (⟨"DuctRake", "mixedWithBuffer", "(J)J"⟩, 8), (⟨"java/lang/Throwable", "fillInStackTrace", "(I)Ljava/lang/Throwable;"⟩, 6)]
theorem lw_r1 : ∀ q ∈ lw_privs_1, lw_okq q := List.forall_mem_cons.mpr ⟨lw_p0, List.forall_mem_cons.mpr ⟨lw_p1, List.forall_mem_cons.mpr ⟨lw_p2, List.forall_mem_cons.mpr ⟨lw_p3, List.forall_mem_cons.mpr ⟨lw_p4, List.forall_mem_cons.mpr ⟨lw_p5, List.forall_mem_cons.mpr ⟨lw_p6, List.forall_mem_cons.mpr ⟨lw_p7, List.forall_mem_cons.mpr ⟨lw_p8, List.forall_mem_cons.mpr ⟨lw_p9, List.forall_mem_cons.mpr ⟨lw_p10, List.forall_mem_cons.mpr ⟨lw_p11, List.forall_mem_cons.mpr ⟨lw_p12, List.forall_mem_cons.mpr ⟨lw_p13, List.forall_mem_cons.mpr ⟨lw_p14, List.forall_mem_cons.mpr ⟨lw_p15, fun _ h => absurd h List.not_mem_nil⟩⟩⟩⟩⟩⟩⟩⟩⟩⟩⟩⟩⟩⟩⟩⟩
theorem lw_p16 : lw_okq (⟨"DuctRake", "isNoHole", "(I)Z"⟩, 8) := ⟨⟨by decide +kernel, by decide +kernel⟩, List.mem_of_getElem? (i := 21) (by decide +kernel), List.mem_of_getElem? (i := 560) (by decide +kernel), List.mem_of_getElem? (i := 561) (by decide +kernel)⟩
theorem lw_p17 : lw_okq (⟨"DuctRake", "isNoReading", "(I)Z"⟩, 8) := ⟨⟨by decide +kernel, by decide +kernel⟩, List.mem_of_getElem? (i := 21) (by decide +kernel), List.mem_of_getElem? (i := 619) (by decide +kernel), List.mem_of_getElem? (i := 620) (by decide +kernel)⟩
theorem lw_p18 : lw_okq (⟨"DuctRake", "slotOf", "(I)LDuctRake$Slot;"⟩, 8) := ⟨⟨by decide +kernel, by decide +kernel⟩, List.mem_of_getElem? (i := 21) (by decide +kernel), List.mem_of_getElem? (i := 697) (by decide +kernel), List.mem_of_getElem? (i := 698) (by decide +kernel)⟩
theorem lw_p19 : lw_okq (⟨"DuctRakeModel", "clearsHoles", "()V"⟩, 18) := ⟨⟨by decide +kernel, by decide +kernel⟩, List.mem_of_getElem? (i := 784) (by decide +kernel), List.mem_of_getElem? (i := 790) (by decide +kernel), List.mem_of_getElem? (i := 791) (by decide +kernel)⟩
theorem lw_p20 : lw_okq (⟨"DuctRakeModel", "lay", "(III)V"⟩, 18) := ⟨⟨by decide +kernel, by decide +kernel⟩, List.mem_of_getElem? (i := 784) (by decide +kernel), List.mem_of_getElem? (i := 794) (by decide +kernel), List.mem_of_getElem? (i := 795) (by decide +kernel)⟩
theorem lw_p21 : lw_okq (⟨"DuctRakeModel", "fails", "(I)I"⟩, 18) := ⟨⟨by decide +kernel, by decide +kernel⟩, List.mem_of_getElem? (i := 784) (by decide +kernel), List.mem_of_getElem? (i := 865) (by decide +kernel), List.mem_of_getElem? (i := 866) (by decide +kernel)⟩
theorem lw_p22 : lw_okq (⟨"DuctRakeModel", "saves", "()V"⟩, 18) := ⟨⟨by decide +kernel, by decide +kernel⟩, List.mem_of_getElem? (i := 784) (by decide +kernel), List.mem_of_getElem? (i := 869) (by decide +kernel), List.mem_of_getElem? (i := 870) (by decide +kernel)⟩
theorem lw_p23 : lw_okq (⟨"DuctRakeModel", "holeWork", "()I"⟩, 18) := ⟨⟨by decide +kernel, by decide +kernel⟩, List.mem_of_getElem? (i := 784) (by decide +kernel), List.mem_of_getElem? (i := 873) (by decide +kernel), List.mem_of_getElem? (i := 874) (by decide +kernel)⟩
theorem lw_p24 : lw_okq (⟨"DuctRakeModel", "of", "(II)I"⟩, 18) := ⟨⟨by decide +kernel, by decide +kernel⟩, List.mem_of_getElem? (i := 784) (by decide +kernel), List.mem_of_getElem? (i := 877) (by decide +kernel), List.mem_of_getElem? (i := 878) (by decide +kernel)⟩
theorem lw_p25 : lw_okq (⟨"DuctRakeModel", "changes", "(III)I"⟩, 18) := ⟨⟨by decide +kernel, by decide +kernel⟩, List.mem_of_getElem? (i := 784) (by decide +kernel), List.mem_of_getElem? (i := 889) (by decide +kernel), List.mem_of_getElem? (i := 890) (by decide +kernel)⟩
theorem lw_p26 : lw_okq (⟨"DuctRakeModel", "isHole", "(I)Z"⟩, 18) := ⟨⟨by decide +kernel, by decide +kernel⟩, List.mem_of_getElem? (i := 784) (by decide +kernel), List.mem_of_getElem? (i := 893) (by decide +kernel), List.mem_of_getElem? (i := 894) (by decide +kernel)⟩
theorem lw_p27 : lw_okq (⟨"DuctRakeModel", "comes", "(I)I"⟩, 18) := ⟨⟨by decide +kernel, by decide +kernel⟩, List.mem_of_getElem? (i := 784) (by decide +kernel), List.mem_of_getElem? (i := 913) (by decide +kernel), List.mem_of_getElem? (i := 914) (by decide +kernel)⟩
theorem lw_p28 : lw_okq (⟨"DuctRakeModel", "drops", "(I)V"⟩, 18) := ⟨⟨by decide +kernel, by decide +kernel⟩, List.mem_of_getElem? (i := 784) (by decide +kernel), List.mem_of_getElem? (i := 917) (by decide +kernel), List.mem_of_getElem? (i := 918) (by decide +kernel)⟩
theorem lw_p29 : lw_okq (⟨"DuctRakeModel", "felt", "(I)I"⟩, 18) := ⟨⟨by decide +kernel, by decide +kernel⟩, List.mem_of_getElem? (i := 784) (by decide +kernel), List.mem_of_getElem? (i := 921) (by decide +kernel), List.mem_of_getElem? (i := 922) (by decide +kernel)⟩
theorem lw_p30 : lw_okq (⟨"DuctRakeModel", "trueHead", "(I)I"⟩, 18) := ⟨⟨by decide +kernel, by decide +kernel⟩, List.mem_of_getElem? (i := 784) (by decide +kernel), List.mem_of_getElem? (i := 925) (by decide +kernel), List.mem_of_getElem? (i := 926) (by decide +kernel)⟩
theorem lw_p31 : lw_okq (⟨"DuctRakeModel", "trueSpeed", "(II)I"⟩, 18) := ⟨⟨by decide +kernel, by decide +kernel⟩, List.mem_of_getElem? (i := 784) (by decide +kernel), List.mem_of_getElem? (i := 929) (by decide +kernel), List.mem_of_getElem? (i := 930) (by decide +kernel)⟩
def lw_privs_2 : List (MethodName × Nat) := [(⟨"DuctRake", "isNoHole", "(I)Z"⟩, 8), (⟨"DuctRake", "isNoReading", "(I)Z"⟩, 8), (⟨"DuctRake", "slotOf", "(I)LDuctRake$Slot;"⟩, 8), (⟨"DuctRakeModel", "clearsHoles", "()V"⟩, 18), (⟨"DuctRakeModel", "lay", "(III)V"⟩, 18), (⟨"DuctRakeModel", "fails", "(I)I"⟩, 18), (⟨"DuctRakeModel", "saves", "()V"⟩, 18), (⟨"DuctRakeModel", "holeWork", "()I"⟩, 18), (⟨"DuctRakeModel", "of", "(II)I"⟩, 18), (⟨"DuctRakeModel", "changes", "(III)I"⟩, 18), (⟨"DuctRakeModel", "isHole", "(I)Z"⟩, 18), (⟨"DuctRakeModel", "comes", "(I)I"⟩, 18), (⟨"DuctRakeModel", "drops", "(I)V"⟩, 18), (⟨"DuctRakeModel", "felt", "(I)I"⟩, 18), (⟨"DuctRakeModel", "trueHead", "(I)I"⟩, 18), (⟨"DuctRakeModel", "trueSpeed", "(II)I"⟩, 18)]
theorem lw_r2 : ∀ q ∈ lw_privs_2, lw_okq q := List.forall_mem_cons.mpr ⟨lw_p16, List.forall_mem_cons.mpr ⟨lw_p17, List.forall_mem_cons.mpr ⟨lw_p18, List.forall_mem_cons.mpr ⟨lw_p19, List.forall_mem_cons.mpr ⟨lw_p20, List.forall_mem_cons.mpr ⟨lw_p21, List.forall_mem_cons.mpr ⟨lw_p22, List.forall_mem_cons.mpr ⟨lw_p23, List.forall_mem_cons.mpr ⟨lw_p24, List.forall_mem_cons.mpr ⟨lw_p25, List.forall_mem_cons.mpr ⟨lw_p26, List.forall_mem_cons.mpr ⟨lw_p27, List.forall_mem_cons.mpr ⟨lw_p28, List.forall_mem_cons.mpr ⟨lw_p29, List.forall_mem_cons.mpr ⟨lw_p30, List.forall_mem_cons.mpr ⟨lw_p31, fun _ h => absurd h List.not_mem_nil⟩⟩⟩⟩⟩⟩⟩⟩⟩⟩⟩⟩⟩⟩⟩⟩
theorem lw_p32 : lw_okq (⟨"DuctRakeModel", "distance", "(II)I"⟩, 18) := ⟨⟨by decide +kernel, by decide +kernel⟩, List.mem_of_getElem? (i := 784) (by decide +kernel), List.mem_of_getElem? (i := 933) (by decide +kernel), List.mem_of_getElem? (i := 934) (by decide +kernel)⟩
theorem lw_p33 : lw_okq (⟨"DuctRakeModel", "readsAll", "()V"⟩, 18) := ⟨⟨by decide +kernel, by decide +kernel⟩, List.mem_of_getElem? (i := 784) (by decide +kernel), List.mem_of_getElem? (i := 964) (by decide +kernel), List.mem_of_getElem? (i := 965) (by decide +kernel)⟩
theorem lw_p34 : lw_okq (⟨"DuctRakeModel", "readsHead", "()V"⟩, 18) := ⟨⟨by decide +kernel, by decide +kernel⟩, List.mem_of_getElem? (i := 784) (by decide +kernel), List.mem_of_getElem? (i := 968) (by decide +kernel), List.mem_of_getElem? (i := 969) (by decide +kernel)⟩
theorem lw_p35 : lw_okq (⟨"DuctRakeModel", "sign", "()I"⟩, 18) := ⟨⟨by decide +kernel, by decide +kernel⟩, List.mem_of_getElem? (i := 784) (by decide +kernel), List.mem_of_getElem? (i := 972) (by decide +kernel), List.mem_of_getElem? (i := 973) (by decide +kernel)⟩
theorem lw_p36 : lw_okq (⟨"DuctRakeModel", "tellsHole", "(II)I"⟩, 18) := ⟨⟨by decide +kernel, by decide +kernel⟩, List.mem_of_getElem? (i := 784) (by decide +kernel), List.mem_of_getElem? (i := 997) (by decide +kernel), List.mem_of_getElem? (i := 998) (by decide +kernel)⟩
theorem lw_p37 : lw_okq (⟨"DuctRakeModel", "laysAll", "()V"⟩, 18) := ⟨⟨by decide +kernel, by decide +kernel⟩, List.mem_of_getElem? (i := 784) (by decide +kernel), List.mem_of_getElem? (i := 1001) (by decide +kernel), List.mem_of_getElem? (i := 1002) (by decide +kernel)⟩
theorem lw_p38 : lw_okq (⟨"DuctRakeModel", "laysMeans", "()V"⟩, 18) := ⟨⟨by decide +kernel, by decide +kernel⟩, List.mem_of_getElem? (i := 784) (by decide +kernel), List.mem_of_getElem? (i := 1005) (by decide +kernel), List.mem_of_getElem? (i := 1006) (by decide +kernel)⟩
theorem lw_p39 : lw_okq (⟨"DuctRakeModel", "counts", "(I)Z"⟩, 18) := ⟨⟨by decide +kernel, by decide +kernel⟩, List.mem_of_getElem? (i := 784) (by decide +kernel), List.mem_of_getElem? (i := 1009) (by decide +kernel), List.mem_of_getElem? (i := 1010) (by decide +kernel)⟩
theorem lw_p40 : lw_okq (⟨"DuctRakeModel", "ofReading", "(II)I"⟩, 18) := ⟨⟨by decide +kernel, by decide +kernel⟩, List.mem_of_getElem? (i := 784) (by decide +kernel), List.mem_of_getElem? (i := 1013) (by decide +kernel), List.mem_of_getElem? (i := 1014) (by decide +kernel)⟩
theorem lw_p41 : lw_okq (⟨"DuctRakeModel", "laysTold", "(I)V"⟩, 18) := ⟨⟨by decide +kernel, by decide +kernel⟩, List.mem_of_getElem? (i := 784) (by decide +kernel), List.mem_of_getElem? (i := 1017) (by decide +kernel), List.mem_of_getElem? (i := 1018) (by decide +kernel)⟩
theorem lw_p42 : lw_okq (⟨"DuctRakeModel", "reason", "(IIZ)I"⟩, 18) := ⟨⟨by decide +kernel, by decide +kernel⟩, List.mem_of_getElem? (i := 784) (by decide +kernel), List.mem_of_getElem? (i := 1021) (by decide +kernel), List.mem_of_getElem? (i := 1022) (by decide +kernel)⟩
theorem lw_p43 : lw_okq (⟨"DuctRakeModel", "mended", "(I)I"⟩, 18) := ⟨⟨by decide +kernel, by decide +kernel⟩, List.mem_of_getElem? (i := 784) (by decide +kernel), List.mem_of_getElem? (i := 1025) (by decide +kernel), List.mem_of_getElem? (i := 1026) (by decide +kernel)⟩
theorem lw_p44 : lw_okq (⟨"DuctRakeModel", "nearest", "(II)I"⟩, 18) := ⟨⟨by decide +kernel, by decide +kernel⟩, List.mem_of_getElem? (i := 784) (by decide +kernel), List.mem_of_getElem? (i := 1029) (by decide +kernel), List.mem_of_getElem? (i := 1030) (by decide +kernel)⟩
theorem lw_p45 : lw_okq (⟨"DuctRakeModel", "flowOf", "(II)I"⟩, 18) := ⟨⟨by decide +kernel, by decide +kernel⟩, List.mem_of_getElem? (i := 784) (by decide +kernel), List.mem_of_getElem? (i := 1033) (by decide +kernel), List.mem_of_getElem? (i := 1034) (by decide +kernel)⟩
theorem lw_p46 : lw_okq (⟨"DuctRakeModel", "ringFlow", "(II)I"⟩, 18) := ⟨⟨by decide +kernel, by decide +kernel⟩, List.mem_of_getElem? (i := 784) (by decide +kernel), List.mem_of_getElem? (i := 1037) (by decide +kernel), List.mem_of_getElem? (i := 1038) (by decide +kernel)⟩
theorem lw_p47 : lw_okq (⟨"DuctRakeModel", "tellsReading", "(II)I"⟩, 18) := ⟨⟨by decide +kernel, by decide +kernel⟩, List.mem_of_getElem? (i := 784) (by decide +kernel), List.mem_of_getElem? (i := 1045) (by decide +kernel), List.mem_of_getElem? (i := 1046) (by decide +kernel)⟩
def lw_privs_3 : List (MethodName × Nat) := [(⟨"DuctRakeModel", "distance", "(II)I"⟩, 18), (⟨"DuctRakeModel", "readsAll", "()V"⟩, 18), (⟨"DuctRakeModel", "readsHead", "()V"⟩, 18), (⟨"DuctRakeModel", "sign", "()I"⟩, 18), (⟨"DuctRakeModel", "tellsHole", "(II)I"⟩, 18), (⟨"DuctRakeModel", "laysAll", "()V"⟩, 18), (⟨"DuctRakeModel", "laysMeans", "()V"⟩, 18), (⟨"DuctRakeModel", "counts", "(I)Z"⟩, 18), (⟨"DuctRakeModel", "ofReading", "(II)I"⟩, 18), (⟨"DuctRakeModel", "laysTold", "(I)V"⟩, 18), (⟨"DuctRakeModel", "reason", "(IIZ)I"⟩, 18), (⟨"DuctRakeModel", "mended", "(I)I"⟩, 18), (⟨"DuctRakeModel", "nearest", "(II)I"⟩, 18), (⟨"DuctRakeModel", "flowOf", "(II)I"⟩, 18), (⟨"DuctRakeModel", "ringFlow", "(II)I"⟩, 18), (⟨"DuctRakeModel", "tellsReading", "(II)I"⟩, 18)]
theorem lw_r3 : ∀ q ∈ lw_privs_3, lw_okq q := List.forall_mem_cons.mpr ⟨lw_p32, List.forall_mem_cons.mpr ⟨lw_p33, List.forall_mem_cons.mpr ⟨lw_p34, List.forall_mem_cons.mpr ⟨lw_p35, List.forall_mem_cons.mpr ⟨lw_p36, List.forall_mem_cons.mpr ⟨lw_p37, List.forall_mem_cons.mpr ⟨lw_p38, List.forall_mem_cons.mpr ⟨lw_p39, List.forall_mem_cons.mpr ⟨lw_p40, List.forall_mem_cons.mpr ⟨lw_p41, List.forall_mem_cons.mpr ⟨lw_p42, List.forall_mem_cons.mpr ⟨lw_p43, List.forall_mem_cons.mpr ⟨lw_p44, List.forall_mem_cons.mpr ⟨lw_p45, List.forall_mem_cons.mpr ⟨lw_p46, List.forall_mem_cons.mpr ⟨lw_p47, fun _ h => absurd h List.not_mem_nil⟩⟩⟩⟩⟩⟩⟩⟩⟩⟩⟩⟩⟩⟩⟩⟩
theorem lw_p48 : lw_okq (⟨"DuctRakeModel", "tellsFlow", "(I)I"⟩, 18) := ⟨⟨by decide +kernel, by decide +kernel⟩, List.mem_of_getElem? (i := 784) (by decide +kernel), List.mem_of_getElem? (i := 1053) (by decide +kernel), List.mem_of_getElem? (i := 1054) (by decide +kernel)⟩
theorem lw_p49 : lw_okq (⟨"DuctRakeModel", "trueFlow", "(I)I"⟩, 18) := ⟨⟨by decide +kernel, by decide +kernel⟩, List.mem_of_getElem? (i := 784) (by decide +kernel), List.mem_of_getElem? (i := 1057) (by decide +kernel), List.mem_of_getElem? (i := 1058) (by decide +kernel)⟩
theorem lw_p50 : lw_okq (⟨"DuctRakeModel", "tellsCount", "(I)I"⟩, 18) := ⟨⟨by decide +kernel, by decide +kernel⟩, List.mem_of_getElem? (i := 784) (by decide +kernel), List.mem_of_getElem? (i := 1065) (by decide +kernel), List.mem_of_getElem? (i := 1066) (by decide +kernel)⟩
theorem lw_p51 : lw_okq (⟨"DuctRakeModel", "holesFor", "(I)I"⟩, 18) := ⟨⟨by decide +kernel, by decide +kernel⟩, List.mem_of_getElem? (i := 784) (by decide +kernel), List.mem_of_getElem? (i := 1069) (by decide +kernel), List.mem_of_getElem? (i := 1070) (by decide +kernel)⟩
theorem lw_p52 : lw_okq (⟨"DuctRakeModel", "wholeIfRight", "(I)I"⟩, 18) := ⟨⟨by decide +kernel, by decide +kernel⟩, List.mem_of_getElem? (i := 784) (by decide +kernel), List.mem_of_getElem? (i := 1081) (by decide +kernel), List.mem_of_getElem? (i := 1082) (by decide +kernel)⟩
theorem lw_p53 : lw_okq (⟨"DuctRakeModel", "worstOne", "()I"⟩, 18) := ⟨⟨by decide +kernel, by decide +kernel⟩, List.mem_of_getElem? (i := 784) (by decide +kernel), List.mem_of_getElem? (i := 1089) (by decide +kernel), List.mem_of_getElem? (i := 1090) (by decide +kernel)⟩
theorem lw_p54 : lw_okq (⟨"DuctRakeModel", "fine", "(I)I"⟩, 18) := ⟨⟨by decide +kernel, by decide +kernel⟩, List.mem_of_getElem? (i := 784) (by decide +kernel), List.mem_of_getElem? (i := 1101) (by decide +kernel), List.mem_of_getElem? (i := 1102) (by decide +kernel)⟩
theorem lw_p55 : lw_okq (⟨"DuctRakeModel", "even", "()D"⟩, 18) := ⟨⟨by decide +kernel, by decide +kernel⟩, List.mem_of_getElem? (i := 784) (by decide +kernel), List.mem_of_getElem? (i := 1109) (by decide +kernel), List.mem_of_getElem? (i := 1110) (by decide +kernel)⟩
theorem lw_p56 : lw_okq (⟨"DuctRakeModel", "hashes", "(J)V"⟩, 18) := ⟨⟨by decide +kernel, by decide +kernel⟩, List.mem_of_getElem? (i := 784) (by decide +kernel), List.mem_of_getElem? (i := 1118) (by decide +kernel), List.mem_of_getElem? (i := 1119) (by decide +kernel)⟩
theorem lw_p57 : lw_okq (⟨"DuctRakeModel", "hashesHole", "(I)V"⟩, 18) := ⟨⟨by decide +kernel, by decide +kernel⟩, List.mem_of_getElem? (i := 784) (by decide +kernel), List.mem_of_getElem? (i := 1123) (by decide +kernel), List.mem_of_getElem? (i := 1124) (by decide +kernel)⟩
def lw_privs_4 : List (MethodName × Nat) := [(⟨"DuctRakeModel", "tellsFlow", "(I)I"⟩, 18), (⟨"DuctRakeModel", "trueFlow", "(I)I"⟩, 18), (⟨"DuctRakeModel", "tellsCount", "(I)I"⟩, 18), (⟨"DuctRakeModel", "holesFor", "(I)I"⟩, 18), (⟨"DuctRakeModel", "wholeIfRight", "(I)I"⟩, 18), (⟨"DuctRakeModel", "worstOne", "()I"⟩, 18), (⟨"DuctRakeModel", "fine", "(I)I"⟩, 18), (⟨"DuctRakeModel", "even", "()D"⟩, 18), (⟨"DuctRakeModel", "hashes", "(J)V"⟩, 18), (⟨"DuctRakeModel", "hashesHole", "(I)V"⟩, 18)]
theorem lw_r4 : ∀ q ∈ lw_privs_4, lw_okq q := List.forall_mem_cons.mpr ⟨lw_p48, List.forall_mem_cons.mpr ⟨lw_p49, List.forall_mem_cons.mpr ⟨lw_p50, List.forall_mem_cons.mpr ⟨lw_p51, List.forall_mem_cons.mpr ⟨lw_p52, List.forall_mem_cons.mpr ⟨lw_p53, List.forall_mem_cons.mpr ⟨lw_p54, List.forall_mem_cons.mpr ⟨lw_p55, List.forall_mem_cons.mpr ⟨lw_p56, List.forall_mem_cons.mpr ⟨lw_p57, fun _ h => absurd h List.not_mem_nil⟩⟩⟩⟩⟩⟩⟩⟩⟩⟩
def lw_privs : List (MethodName × Nat) := lw_privs_1 ++ (lw_privs_2 ++ (lw_privs_3 ++ (lw_privs_4)))
def lw_tbl : List Cond := k2_sels lw_privs ++ tables_1
theorem lw_privs_ok : ∀ q ∈ lw_privs, lw_okq q := by
  show ∀ q ∈ lw_privs_1 ++ (lw_privs_2 ++ (lw_privs_3 ++ (lw_privs_4))), lw_okq q
  exact List.forall_mem_append.mpr ⟨lw_r1, List.forall_mem_append.mpr ⟨lw_r2, List.forall_mem_append.mpr ⟨lw_r3, lw_r4⟩⟩⟩
/-- the streams that the claim lets the run draw from -/
abbrev lw_cs : List Choice := [Jvm.Choice.named "NaN.bits"]
theorem lw_bits : nanBits ∈ lw_cs := by first | decide | exact List.mem_cons_self | simp [lw_cs, nanBits]
/-! ===== BEGIN words of one list among another's, by their places ===== -/
theorem goodIn_r {big : List Cond} (ws : List Cond) (ps : List Nat) (hp : ws = ps.filterMap (fun i => big[i]?)) (h : ws.all goodWord = true) : GoodIn big ws := by
  intro w hw
  have h1 := List.all_eq_true.mp h w hw
  rw [hp] at hw
  obtain ⟨i, -, hi⟩ := List.mem_filterMap.mp hw
  have hm : w ∈ big := by first | exact List.mem_of_getElem? hi | exact List.getElem?_mem hi
  exact ⟨hm, good_of_word h1⟩
theorem goodIn_app {big a b : List Cond} (ha : GoodIn big a) (hb : GoodIn big b) : GoodIn big (a ++ b) := fun w h => (List.mem_append.mp h).elim (ha w) (hb w)
theorem goodIn_ca {big a b : List Cond} {c : Cond} (ha : GoodIn big (c :: a)) (hb : GoodIn big b) : GoodIn big (c :: (a ++ b)) := fun w h => (List.mem_cons.mp h).elim (fun e => ha w (List.mem_cons.mpr (Or.inl e))) (fun h => (List.mem_append.mp h).elim (fun h => ha w (List.mem_cons.mpr (Or.inr h))) (hb w))
theorem goodIn_sub {big ws : List Cond} (hm : ∀ w ∈ ws, w ∈ big) (h : ws.all goodWord = true) : GoodIn big ws := fun w hw => ⟨hm w hw, good_of_word (List.all_eq_true.mp h w hw)⟩
/-! ===== END ===== -/

/-! ===== BEGIN exceptions that leave a method, and their catching by the caller (launches without stack traces) ===== -/
section VXA
/-! The laws vx_back, vx_callV, vx_callS, vx_callSW, vx_throw0, vx_throwS follow proofs of the library, with one case more: JvmDerived/Free/Laws.lean (Back.of_free), Shelf42/LK1.lean (callV, callS), Shelf/KitTraced.lean (throwNew0V, throwNewS). -/
/-- where a method has thrown q: the class by its name, the cell, what was written, the world -/
def vx_T (XC : String → State → State → Prop) (st : State) (q : Addr) (t : State) (mc ms : Nat) (free : Addr → Prop) : Prop :=
  ∃ (E : String) (ce : Cell) (L : List Loc), XC E st t ∧ t.heap[q]? = some ce ∧ ce.vm = .none ∧ st.vm.findClass E = some ce.cls ∧ st.WarmedH t.vm ∧ st.sameButNew ({ t with vm := st.vm } : State) L mc ms ∧ ∀ z ∈ L, free z.base
def vx_Q (Qc : Array Value → State → Outcome → State → Prop) (XC : String → State → State → Prop) (mc ms : Nat) (free : Addr → Prop) : Array Value → State → Outcome → State → Prop := fun a st o t =>
  (Qc a st o t ∧ ∃ L, FrameEnd st o t L mc ms ∧ ∀ q ∈ L, free q.base) ∨ ∃ q, o = .threw q ∧ vx_T XC st q t mc ms free
/-- a callee that returns or throws -/
def vx_Met (l : Launch) (y : MethodName) (ws : List Cond) (rm : Room) (Pc : Array Value → State → Prop) (Qc : Array Value → State → Outcome → State → Prop) (XC : String → State → State → Prop) (mc ms : Nat) (free : Addr → Prop) : Prop :=
  MetFree l y (headSpec ws rm) Pc (fun _ _ _ _ _ => True) (vx_Q Qc XC mc ms free)
def vx_Post (XC : String → State → State → Prop) (mc ms : Nat) (free : Addr → Prop) : Pt → Array Value → Addr → Pt → Prop := fun A a q B =>
  ∃ (g : JFrame) (mk : MethodId) (t : State) (L : List Loc) (E : String) (ce : Cell), B.U.heap = t.heap ∧ B.U.vm = t.vm ∧ XC E (A.U.calling g mk a) t ∧ t.heap[q]? = some ce ∧ ce.vm = .none ∧ A.U.vm.findClass E = some ce.cls ∧ B.locs = A.locs ++ L ∧ (∀ z ∈ L, free z.base) ∧ B.cells = A.cells + mc ∧ B.slots = A.slots + ms
def vx_Back (l : Launch) (R : Room) (p : Program) (e : Env) (below : List Frame) (s : State) (sargs : Array Value) (y : MethodName) (len W9 : Nat)
    (Pre : Pt → Array Value → Prop) (Post : Pt → Array Value → Option Value → Pt → Prop) (PostX : Pt → Array Value → Addr → Pt → Prop) : Prop :=
  ∀ (m : MethodId) (meth : Method) (c : Code) (A : Pt) (g : JFrame) (ig : Instr) (mk : MethodId) (a : Array Value),
    Stand p l e R s m sargs below meth c A.U A.locs A.cells A.slots → g.method = m → g.locals.size = c.maxLocals → decode c.code g.pc = .ok (ig, len) →
    2 * g.monitorRoom + (g.stack.map fun v => v.category).sum ≤ W9 → A.U.methodNamed? y = some mk → Pre A a →
    (∃ (v : Option Value) (B : Pt), Stand p l e R s m sargs below meth c B.U B.locs B.cells B.slots ∧ Post A a v B ∧
      Steps p.tables e below (doInvoke e (A.U.setTop g) [] mk a).1 (B.U.setTop { g with pc := g.pc + len, stack := v.toList ++ g.stack })) ∨
    (∃ (q : Addr) (B : Pt), Stand p l e R s m sargs below meth c B.U B.locs B.cells B.slots ∧ PostX A a q B ∧
      Steps p.tables e below (doInvoke e (A.U.setTop g) [] mk a).1 ((B.U.setTop g).pushFrame (.throwing q)))
section Payer
variable {l : Launch} {R : Room} {p : Program} {e : Env} {below : List Frame} {s : State} {sargs : Array Value} {y : MethodName} {len W9 : Nat}
theorem vx_back {ws : List Cond} {rm : Room} {Pc : Array Value → State → Prop} {Qc : Array Value → State → Outcome → State → Prop} {XC : String → State → State → Prop} {mc ms : Nat} {free : Addr → Prop} {bytes : ByteArray} {maxL : Nat} {ret : Option FieldType}
    (hM : vx_Met l y ws rm Pc Qc XC mc ms free) (hblind : FrameBlind Pc) (hrc : rm.cells = mc) (hrs : rm.slots = ms)
    (hframes : rm.frames + 1 ≤ R.frames) (hlocals : W9 + (maxL + 11) + rm.locals ≤ R.locals)
    (hws : ∀ w ∈ ws, ∀ a' U, s.WarmedH U.vm → w.before a' U = true) (hcode : Cond.code y bytes maxL ret ∈ ws) (hinit : ∀ a' U, s.WarmedH U.vm → (Cond.initialized y.cls).before a' U = true) :
    vx_Back l R p e below s sargs y len W9 (PreOf R mc ms Pc) (PostOf Qc mc ms free) (vx_Post XC mc ms free) := by
  intro m meth c A g ig mk a X hg hsize hdg hW hn hp
  have h1 : (headSpec ws rm).pre.before a A.U = true := atoms_intro fun w hw => hws w hw _ _ X.warmed
  have h2 : (Cond.code y bytes maxL ret).before a A.U = true := hws _ hcode _ _ X.warmed
  have h3 : (Cond.initialized y.cls).before a A.U = true := hinit _ _ X.warmed
  have h4 : A.cells + (headSpec ws rm).room.cells ≤ R.cells := by rw [show (headSpec ws rm).room.cells = mc from hrc]; exact hp.1
  have h5 : A.slots + (headSpec ws rm).room.slots ≤ R.slots := by rw [show (headSpec ws rm).room.slots = ms from hrs]; exact hp.2.1
  have hPc : Pc a (A.U.calling g mk a) := hblind _ _ _ _ hp.2.2
  obtain ⟨U, Ls, c0, s0⟩ := A
  dsimp only [Pt.U, Pt.locs, Pt.cells, Pt.slots] at h1 h2 h3 h4 h5 X hn hPc ⊢
  obtain ⟨methY, cY, hmY, hcY, -, hlY, -, -, -, -⟩ := Cond.code_spec hn h2
  obtain ⟨kY, hkY, -⟩ := className_of_methodNamed hn
  have hinitY : kY.init = .initialized := Cond.initialized_spec (findClass_of_methodNamed hn) hkY h3
  have h : At U g.method c below := by rw [hg]; exact X.here
  have hlocals9 : W9 + (maxL + 11) + (headSpec ws rm).room.locals ≤ R.locals := hlocals
  have happ : (headSpec ws rm).appliesLoose y e.platform (U.calling g mk a) = true :=
    Spec.appliesLoose_calling (g := g) h hdg hn hkY hinitY
      (X.room_calling (g := g) (R' := (headSpec ws rm).room) hsize hmY hcY hframes (by rw [hlY]; omega) h4 h5) h1
  obtain ⟨mid, hmid⟩ := h.above
  have hfr : (U.setTop g).frames = (.java g :: mid) ++ below := by rw [State.frames_setTop' g h.top, hmid]; rfl
  obtain ⟨o, s₂, hsteps, -, hend, hq⟩ := Steps.callFree hM p X.admits X.cas X.clock (acts := []) hfr happ hPc trivial
  have hq' : vx_Q Qc XC mc ms free a (U.calling g mk a) o s₂ := hq
  rw [State.frames_setTop' g h.top] at hend
  obtain ⟨g₀, hg0⟩ := Option.isSome_iff_exists.mp h.top
  obtain ⟨r, hr⟩ := State.topJava?_eq_some.mp hg0
  have hr' : (({ U with heap := s₂.heap, slotsUsed := s₂.slotsUsed } : State).setVm s₂.vm).frames = .java g₀ :: r := hr
  rcases hq' with ⟨hqc, L, hfe, hL⟩ | ⟨q, rfl, E, ce, L, hx, hce, hcv, hcl, hW₂, hsm, hL⟩
  · obtain ⟨⟨v, rfl⟩, hW₂, e2, q2, q3, q4, q5, q6⟩ := id hfe
    have e3 : s₂ = ({ (U.calling g mk a).setFrames s₂.frames with heap := s₂.heap, slotsUsed := s₂.slotsUsed } : State).setVm s₂.vm := by
      have : s₂ = ({ s₂ with vm := (U.calling g mk a).vm } : State).setVm s₂.vm := rfl
      rw [e2] at this
      exact this
    obtain ⟨c₂, i₂, len₂, hc₂, hd₂, hf₂⟩ := hend
    have hW' : U.WarmedH s₂.vm := hW₂
    have hcc : c₂ = c := by
      have h1 : s₂.code? g.method = U.code? g.method := by
        rw [State.code?_eq, State.code?_eq, hW'.alike.method?]
      exact Option.some.inj (hc₂.symm.trans (h1.trans h.code))
    subst hcc
    have hlen : len₂ = len := by rw [hdg] at hd₂; cases hd₂; rfl
    subst hlen
    have hs₂ : s₂ = (({ U with heap := s₂.heap, slotsUsed := s₂.slotsUsed } : State).setVm s₂.vm).setTop { g with pc := g.pc + len₂, stack := v.toList ++ g.stack } := by
      refine e3.trans ?_
      rw [hf₂, State.calling_eq h.top, State.setFrames_setFrames, State.setTop_of_frames _ hr', hr]
      rfl
    have hsame : U.sameButNew ({ U with heap := s₂.heap, slotsUsed := s₂.slotsUsed } : State) L mc ms := by
      refine ⟨?_, q2, q3, q4, q5, q6⟩
      obtain ⟨t, ht, -⟩ := State.frames_cons hr
      show ({ U with heap := s₂.heap, slotsUsed := s₂.slotsUsed } : State) = { U.setFrames U.frames with heap := s₂.heap, slotsUsed := s₂.slotsUsed }
      rw [State.setFrames_self ht]
    subst hg
    refine Or.inl ⟨v, ⟨(({ U with heap := s₂.heap, slotsUsed := s₂.slotsUsed } : State).setVm s₂.vm), Ls ++ L, c0 + mc, s0 + ms⟩,
      ⟨X.admits, X.cas, X.clock, X.frames, X.room, X.hears, X.method, X.code, (X.here.setHeapUsed s₂.heap s₂.slotsUsed).setVm hW'.alike, X.tail, State.WarmedH.trans X.warmed hW', X.limits, X.bytes, X.same.trans (hsame.setVm s.vm)⟩,
      ⟨g, mk, s₂, L, rfl, rfl, hqc, rfl, hL, rfl, rfl⟩, ?_⟩
    show Steps p.tables e below _ ((({ U with heap := s₂.heap, slotsUsed := s₂.slotsUsed } : State).setVm s₂.vm).setTop { g with pc := g.pc + len₂, stack := v.toList ++ g.stack })
    rw [← hs₂]
    exact hsteps
  · obtain ⟨e2, q2, q3, q4, q5, q6⟩ := id hsm
    have e3 : s₂ = ({ (U.calling g mk a).setFrames s₂.frames with heap := s₂.heap, slotsUsed := s₂.slotsUsed } : State).setVm s₂.vm := by
      have : s₂ = ({ s₂ with vm := (U.calling g mk a).vm } : State).setVm s₂.vm := rfl
      rw [e2] at this
      exact this
    have hf₂ : s₂.frames = .throwing q :: .java g :: U.frames.tail := hend
    have hW' : U.WarmedH s₂.vm := hW₂
    have hs₂ : s₂ = ((({ U with heap := s₂.heap, slotsUsed := s₂.slotsUsed } : State).setVm s₂.vm).setTop g).pushFrame (.throwing q) := by
      refine e3.trans ?_
      rw [hf₂, State.calling_eq h.top, State.setFrames_setFrames, State.pushFrame, State.frames_setTop _ hr', State.setTop_of_frames _ hr', State.setFrames_setFrames, hr]
      rfl
    have hsame : U.sameButNew ({ U with heap := s₂.heap, slotsUsed := s₂.slotsUsed } : State) L mc ms := by
      refine ⟨?_, q2, q3, q4, q5, q6⟩
      obtain ⟨t, ht, -⟩ := State.frames_cons hr
      show ({ U with heap := s₂.heap, slotsUsed := s₂.slotsUsed } : State) = { U.setFrames U.frames with heap := s₂.heap, slotsUsed := s₂.slotsUsed }
      rw [State.setFrames_self ht]
    subst hg
    refine Or.inr ⟨q, ⟨(({ U with heap := s₂.heap, slotsUsed := s₂.slotsUsed } : State).setVm s₂.vm), Ls ++ L, c0 + mc, s0 + ms⟩,
      ⟨X.admits, X.cas, X.clock, X.frames, X.room, X.hears, X.method, X.code, (X.here.setHeapUsed s₂.heap s₂.slotsUsed).setVm hW'.alike, X.tail, State.WarmedH.trans X.warmed hW', X.limits, X.bytes, X.same.trans (hsame.setVm s.vm)⟩,
      ⟨g, mk, s₂, L, E, ce, rfl, rfl, hx, hce, hcv, hcl, rfl, hL, rfl, rfl⟩, ?_⟩
    show Steps p.tables e below _ (((({ U with heap := s₂.heap, slotsUsed := s₂.slotsUsed } : State).setVm s₂.vm).setTop g).pushFrame (.throwing q))
    rw [← hs₂]
    exact hsteps
end Payer
section Calls
variable {p : Program} {l : Launch} {e : Env} {R : Room} {s : State} {m : MethodId} {args : Array Value} {below : List Frame} {meth : Method} {c : Code} {T : State} {locs : List Loc} {cells slots : Nat}
theorem vx_callV (X : Stand p l e R s m args below meth c T locs cells slots) (hexec : p.tables.exec = Jvm.exec) {own C : String} {index : Nat} {y : MethodName} {bytes : ByteArray} {maxL : Nat} {ret : Option FieldType}
    (hown : s.vm.findClass own = some m.cls) (hlink : (Cond.methodLink own index y).before args s = true) (hinst : (Cond.instanceMethod y).before args s = true) (hsel : (Cond.selects C y y).before args s = true)
    (hcode : (Cond.code y bytes maxL ret).before args s = true) (hy : y.cls ≠ "java/lang/invoke/MethodHandle" ∧ y.cls ≠ "java/lang/invoke/VarHandle")
    {W9 : Nat} {Pre : Pt → Array Value → Prop} {Post : Pt → Array Value → Option Value → Pt → Prop} {PostX : Pt → Array Value → Addr → Pt → Prop} (hK : vx_Back l R p e below s args y 3 W9 Pre Post PostX)
    {b : Addr} {cellB : Cell} (hcell : T.heap[b]? = some cellB) (hobj : cellB.vm.isStatics = false) (hcls : s.vm.findClass C = some cellB.cls)
    {g : JFrame} (hg : g.method = m) (hsize : g.locals.size = c.maxLocals) {argsL rest : List Value} (hlen : ∀ sig, parseMethodDescriptor y.desc = some sig → argsL.length = sig.parameters.length)
    (hstack : g.stack = argsL.reverse ++ .ref b :: rest) (hW : 2 * g.monitorRoom + (rest.map fun v => v.category).sum ≤ W9) (hdg : decode c.code g.pc = .ok (.invokevirtual index, 3))
    (hpre : ∀ vm₁, s.WarmedH vm₁ → Pre ⟨T.setVm vm₁, locs, cells, slots⟩ (Value.ref b :: argsL).toArray) :
    (∃ (v : Option Value) (vm₁ : Vm) (B : Pt), s.WarmedH vm₁ ∧ Stand p l e R s m args below meth c B.U B.locs B.cells B.slots ∧ Post ⟨T.setVm vm₁, locs, cells, slots⟩ (Value.ref b :: argsL).toArray v B ∧
      ∀ target, Steps p.tables e below (B.U.setTop { g with pc := g.pc + 3, stack := v.toList ++ rest }) target → Steps p.tables e below (T.setTop g) target) ∨
    (∃ (q : Addr) (vm₁ : Vm) (B : Pt), s.WarmedH vm₁ ∧ Stand p l e R s m args below meth c B.U B.locs B.cells B.slots ∧ PostX ⟨T.setVm vm₁, locs, cells, slots⟩ (Value.ref b :: argsL).toArray q B ∧
      Steps p.tables e below (T.setTop g) ((B.U.setTop { g with stack := rest }).pushFrame (.throwing q))) := by
  obtain ⟨mk, methM, hnamed, hmethM, hstM, habM⟩ := Cond.instanceMethod_spec hinst
  obtain ⟨methM', cM, hmethM', -, -, -, -, -, -, hsigM⟩ := Cond.code_spec hnamed hcode
  cases hmethM.symm.trans hmethM'
  obtain ⟨c2, r2, m2, q1, q2, q3, q4, kP, hkP, hkPi⟩ := Cond.selects_spec hsel
  cases hcls.symm.trans q1
  cases (State.methodFound?_of_named hnamed hy).symm.trans q2
  cases hnamed.symm.trans q3
  have hselP : selectMethod e.platform s.vm cellB.cls mk = .method mk := by rw [Launch.admits_selectMethod X.admits]; exact q4
  obtain ⟨vm₁, X₁, hstep₁⟩ := X.invokevirtual hexec hown hlink hnamed hmethM hstM hkP hkPi hy (a := b) (cell := cellB) hcell
    (fun z h => by rw [h] at hobj; cases hobj) hselP hmethM habM hkP hkPi (g := g) hg (argsL := argsL) (rest := rest) (hlen _ hsigM) hstack hdg
  rcases hK m meth c ⟨T.setVm vm₁, locs, cells, slots⟩ { g with stack := rest } (.invokevirtual index) mk (Value.ref b :: argsL).toArray X₁ hg hsize hdg hW (X₁.named hnamed) (hpre vm₁ X₁.warmed) with ⟨v, B, X', hpost, hsteps⟩ | ⟨q, B, X', hpost, hsteps⟩
  · exact Or.inl ⟨v, vm₁, B, X₁.warmed, X', hpost, fun target h => hstep₁ _ fun acts => by rw [doInvoke_state]; exact hsteps.trans h⟩
  · exact Or.inr ⟨q, vm₁, B, X₁.warmed, X', hpost, hstep₁ _ fun acts => by rw [doInvoke_state]; exact hsteps⟩
theorem vx_callS (X : Stand p l e R s m args below meth c T locs cells slots) (hexec : p.tables.exec = Jvm.exec) {own : String} {index : Nat} {y : MethodName} {bytes : ByteArray} {maxL : Nat} {ret : Option FieldType}
    (hown : s.vm.findClass own = some m.cls) (hlink : (Cond.methodLink own index y).before args s = true) (hstat : (Cond.static y).before args s = true) (hinit : (Cond.initialized y.cls).before args s = true)
    (hcode : (Cond.code y bytes maxL ret).before args s = true) (hy : y.cls ≠ "java/lang/invoke/MethodHandle" ∧ y.cls ≠ "java/lang/invoke/VarHandle")
    {W9 : Nat} {Pre : Pt → Array Value → Prop} {Post : Pt → Array Value → Option Value → Pt → Prop} {PostX : Pt → Array Value → Addr → Pt → Prop} (hK : vx_Back l R p e below s args y 3 W9 Pre Post PostX)
    {g : JFrame} (hg : g.method = m) (hsize : g.locals.size = c.maxLocals) {argsL rest : List Value} (hlen : ∀ sig, parseMethodDescriptor y.desc = some sig → argsL.length = sig.parameters.length)
    (hstack : g.stack = argsL.reverse ++ rest) (hW : 2 * g.monitorRoom + (rest.map fun v => v.category).sum ≤ W9) (hdg : decode c.code g.pc = .ok (.invokestatic index, 3))
    (hpre : ∀ vm₁, s.WarmedH vm₁ → Pre ⟨T.setVm vm₁, locs, cells, slots⟩ argsL.toArray) :
    (∃ (v : Option Value) (vm₁ : Vm) (B : Pt), s.WarmedH vm₁ ∧ Stand p l e R s m args below meth c B.U B.locs B.cells B.slots ∧ Post ⟨T.setVm vm₁, locs, cells, slots⟩ argsL.toArray v B ∧
      ∀ target, Steps p.tables e below (B.U.setTop { g with pc := g.pc + 3, stack := v.toList ++ rest }) target → Steps p.tables e below (T.setTop g) target) ∨
    (∃ (q : Addr) (vm₁ : Vm) (B : Pt), s.WarmedH vm₁ ∧ Stand p l e R s m args below meth c B.U B.locs B.cells B.slots ∧ PostX ⟨T.setVm vm₁, locs, cells, slots⟩ argsL.toArray q B ∧
      Steps p.tables e below (T.setTop g) ((B.U.setTop { g with stack := rest }).pushFrame (.throwing q))) := by
  obtain ⟨mk, hnamed⟩ := Cond.code_named hcode
  obtain ⟨methM, cM, hmethM, -, -, -, -, -, -, hsigM⟩ := Cond.code_spec hnamed hcode
  have hstatic : methM.isStatic = true := Cond.static_spec hnamed hmethM hstat
  obtain ⟨kP, hkP, -⟩ := className_of_methodNamed hnamed
  have hinitP : kP.init = .initialized := Cond.initialized_spec (findClass_of_methodNamed hnamed) hkP hinit
  obtain ⟨vm₁, X₁, hstep₁⟩ := X.invokestatic hexec hown hlink hnamed hmethM hstatic hkP hinitP hy (g := g) hg (argsL := argsL) (rest := rest) (hlen _ hsigM) hstack hdg
  rcases hK m meth c ⟨T.setVm vm₁, locs, cells, slots⟩ { g with stack := rest } (.invokestatic index) mk argsL.toArray X₁ hg hsize hdg hW (X₁.named hnamed) (hpre vm₁ X₁.warmed) with ⟨v, B, X', hpost, hsteps⟩ | ⟨q, B, X', hpost, hsteps⟩
  · exact Or.inl ⟨v, vm₁, B, X₁.warmed, X', hpost, fun target h => hstep₁ _ fun acts => by rw [doInvoke_state]; exact hsteps.trans h⟩
  · exact Or.inr ⟨q, vm₁, B, X₁.warmed, X', hpost, hstep₁ _ fun acts => by rw [doInvoke_state]; exact hsteps⟩
end Calls
theorem vx_cls {s : State} {T : State} {vm₁ : Vm} {E : String} {k : ClassId} (hW : s.WarmedH vm₁) (h : (T.setVm vm₁).vm.findClass E = some k) : s.vm.findClass E = some k := by
  have h1 : vm₁.findClass E = some k := h
  rw [hW.alike.findClass] at h1
  exact h1
/-- the method's frame g, with q thrown over it -/
def vx_W (p : Program) (l : Launch) (e : Env) (R : Room) (s : State) (m : MethodId) (args : Array Value) (below : List Frame) (meth : Method) (c : Code) (H : Heap) (locs : List Loc) (cells slots : Nat) (Q : State → Prop) (g : JFrame) (q : Addr) : Prop :=
  ∀ T : State, T.heap = H → Stand p l e R s m args below meth c T locs cells slots → ∃ t, Steps p.tables e below ((T.setTop g).pushFrame (.throwing q)) t ∧ Q t
def vx_Run (p : Program) (l : Launch) (e : Env) (R : Room) (s : State) (m : MethodId) (args : Array Value) (below : List Frame) (meth : Method) (c : Code) (H : Heap) (locs : List Loc) (cells slots mc ms : Nat) (g : JFrame) (rest : List Value) (Qa : State → Outcome → State → Prop) (XC : String → State → State → Prop) (free : Addr → Prop) : Prop :=
  ∀ T : State, T.heap = H → Stand p l e R s m args below meth c T locs cells slots →
    (∃ (v : Option Value) (st₀ t T' : State) (L : List Loc), st₀.heap = H ∧ Stand p l e R s m args below meth c T' (locs ++ L) (cells + mc) (slots + ms) ∧ (∀ q ∈ L, free q.base) ∧ T'.heap = t.heap ∧ T'.vm = t.vm ∧ Qa st₀ (.returned v) t ∧
      Goes p e below T g T' { g with pc := g.pc + 3, stack := v.toList ++ rest }) ∨
    (∃ (q : Addr) (st₀ t T' : State) (L : List Loc) (E : String) (ce : Cell), st₀.heap = H ∧ Stand p l e R s m args below meth c T' (locs ++ L) (cells + mc) (slots + ms) ∧ (∀ z ∈ L, free z.base) ∧ T'.heap = t.heap ∧ T'.vm = t.vm ∧ XC E st₀ t ∧ t.heap[q]? = some ce ∧ ce.vm = .none ∧ s.vm.findClass E = some ce.cls ∧
      Steps p.tables e below (T.setTop g) ((T'.setTop { g with stack := rest }).pushFrame (.throwing q)))
def vx_X {S : Type} (px : S → Prop) (B : String → S → State → Prop) (A : Nat → Prop) : String → State → State → Prop := fun E st t => ∃ u : S, px u ∧ B E u t ∧ va_F A st t
section Runs
variable {p : Program} {l : Launch} {e : Env} {R : Room} {s : State} {m : MethodId} {args : Array Value} {below : List Frame} {meth : Method} {c : Code} {H : Heap} {locs : List Loc} {cells slots : Nat}
variable {y : MethodName} {bytes cc : ByteArray} {maxL nL mc ms n index : Nat} {ret : Option FieldType} {ws : List Cond} {rm : Room} {Pc : Array Value → State → Prop} {Qc : Array Value → State → Outcome → State → Prop} {XC : String → State → State → Prop} {free : Addr → Prop} {Ts : List Cond} {own C : String} {b : Addr} {As rest : List Value} {g : JFrame}
theorem vx_callBack (cb : CallB R s args own index y bytes maxL ret ws rm mc ms n) (hM : vx_Met l y ws rm Pc Qc XC mc ms free) (hbl : FrameBlind Pc) : vx_Back l R p e below s args y 3 8 (PreOf R mc ms Pc) (PostOf Qc mc ms free) (vx_Post XC mc ms free) := by
  obtain ⟨hrc, hrs, hfr, hlo, hws, hcw, -, hini, -⟩ := cb
  exact vx_back (bytes := bytes) (maxL := maxL) (ret := ret) hM hbl hrc hrs hfr hlo hws hcw (fun a' U hW => word_at hW (Or.inl (by first | rfl | simp [Cond.onTables, Cond.keeps, Cond.steady])) hini)
theorem vx_runV (S : CallFix p m c cc nL s args Ts own) (hM : vx_Met l y ws rm Pc Qc XC mc ms free) (cw : CallW R s args own C index y bytes maxL ret ws rm mc ms n) (hp : PreV s H C b Pc As)
    (hg : g.method = m) (hn : As.length = n) (hsize : g.locals.size = nL) (hstack : g.stack = As.reverse ++ .ref b :: rest) (hW : 2 * g.monitorRoom + (rest.map fun v => v.category).sum ≤ 8) (hdg : decode cc g.pc = .ok (.invokevirtual index, 3)) (hf : cells + mc ≤ R.cells ∧ slots + ms ≤ R.slots) :
    vx_Run p l e R s m args below meth c H locs cells slots mc ms g rest (Qc (Value.ref b :: As).toArray) XC free := by
  have hK : vx_Back l R p e below s args y 3 8 (PreOf R mc ms Pc) (PostOf Qc mc ms free) (vx_Post XC mc ms free) := vx_callBack cw.1 hM hp.1
  obtain ⟨⟨-, -, -, -, -, -, hcode, -, hy, hlen, hl⟩, hin, hse⟩ := cw
  obtain ⟨hx, hb, hml, ho, -⟩ := S
  obtain ⟨-, ⟨cellB, hcB, hoB, hclB⟩, hPc⟩ := hp
  intro T hT X
  rcases vx_callV X hx (C := C) (bytes := bytes) (maxL := maxL) (ret := ret) ho hl hin hse hcode hy hK (by rw [hT]; exact hcB) hoB hclB hg (hsize.trans hml.symm) (argsL := As) (rest := rest) (fun sig h => hn.trans (hlen sig h)) hstack hW (by rw [hb]; exact hdg)
    (fun vm₁ hW₁ => ⟨hf.1, hf.2, hPc (T.setVm vm₁) hT hW₁⟩) with ⟨v, vm₁, ⟨U', l2, c2, s2⟩, hW₁, X', ⟨g', mk, t, L, e1, e2, hq, h1, hL, h2, h3⟩, st⟩ | ⟨q, vm₁, ⟨U', l2, c2, s2⟩, hW₁, X', ⟨g', mk, t, L, E, ce, e1, e2, hq, hce, hcv, hcl, h1, hL, h2, h3⟩, st⟩
  · dsimp only [Pt.U, Pt.locs, Pt.cells, Pt.slots] at X' e1 e2 h1 h2 h3 st
    subst h1; subst h2; subst h3
    exact Or.inl ⟨v, (T.setVm vm₁).calling g' mk (Value.ref b :: As).toArray, t, U', L, hT, X', hL, e1, e2, hq, st⟩
  · dsimp only [Pt.U, Pt.locs, Pt.cells, Pt.slots] at X' e1 e2 h1 h2 h3 st hcl
    subst h1; subst h2; subst h3
    exact Or.inr ⟨q, (T.setVm vm₁).calling g' mk (Value.ref b :: As).toArray, t, U', L, E, ce, hT, X', hL, e1, e2, hq, hce, hcv, vx_cls hW₁ hcl, st⟩
theorem vx_runS (S : CallFix p m c cc nL s args Ts own) (hM : vx_Met l y ws rm Pc Qc XC mc ms free) (cw : CallB R s args own index y bytes maxL ret ws rm mc ms n ∧ (Cond.static y).before args s = true) (hp : PreS s H Pc As)
    (hg : g.method = m) (hn : As.length = n) (hsize : g.locals.size = nL) (hstack : g.stack = As.reverse ++ rest) (hW : 2 * g.monitorRoom + (rest.map fun v => v.category).sum ≤ 8) (hdg : decode cc g.pc = .ok (.invokestatic index, 3)) (hf : cells + mc ≤ R.cells ∧ slots + ms ≤ R.slots) :
    vx_Run p l e R s m args below meth c H locs cells slots mc ms g rest (Qc As.toArray) XC free := by
  have hK : vx_Back l R p e below s args y 3 8 (PreOf R mc ms Pc) (PostOf Qc mc ms free) (vx_Post XC mc ms free) := vx_callBack cw.1 hM hp.1
  obtain ⟨⟨-, -, -, -, -, -, hcode, hini, hy, hlen, hl⟩, hstt⟩ := cw
  obtain ⟨hx, hb, hml, ho, -⟩ := S
  intro T hT X
  rcases vx_callS X hx (bytes := bytes) (maxL := maxL) (ret := ret) ho hl hstt hini hcode hy hK hg (hsize.trans hml.symm) (argsL := As) (rest := rest) (fun sig h => hn.trans (hlen sig h)) hstack hW (by rw [hb]; exact hdg)
    (fun vm₁ hW₁ => ⟨hf.1, hf.2, hp.2 (T.setVm vm₁) hT hW₁⟩) with ⟨v, vm₁, ⟨U', l2, c2, s2⟩, hW₁, X', ⟨g', mk, t, L, e1, e2, hq, h1, hL, h2, h3⟩, st⟩ | ⟨q, vm₁, ⟨U', l2, c2, s2⟩, hW₁, X', ⟨g', mk, t, L, E, ce, e1, e2, hq, hce, hcv, hcl, h1, hL, h2, h3⟩, st⟩
  · dsimp only [Pt.U, Pt.locs, Pt.cells, Pt.slots] at X' e1 e2 h1 h2 h3 st
    subst h1; subst h2; subst h3
    exact Or.inl ⟨v, (T.setVm vm₁).calling g' mk As.toArray, t, U', L, hT, X', hL, e1, e2, hq, st⟩
  · dsimp only [Pt.U, Pt.locs, Pt.cells, Pt.slots] at X' e1 e2 h1 h2 h3 st hcl
    subst h1; subst h2; subst h3
    exact Or.inr ⟨q, (T.setVm vm₁).calling g' mk As.toArray, t, U', L, E, ce, hT, X', hL, e1, e2, hq, hce, hcv, vx_cls hW₁ hcl, st⟩
end Runs
section Rows
variable {p : Program} {l : Launch} {e : Env} {R : Room} {s : State} {m : MethodId} {args : Array Value} {below : List Frame} {meth : Method} {c : Code} {H : Heap} {locs : List Loc} {cells slots : Nat} {Q : State → Prop}
variable {mc ms : Nat} {free : Addr → Prop} {A0 A1 : Nat → Prop} {H0 : Heap} {a : Array Value} {pc : Nat} {ls : Array Slot} {st0 rest : List Value}
theorem vx_keep {st₀ t T' : State} {L : List Loc} (h0 : st₀.heap = H) (e1 : T'.heap = t.heap) (hS : va_S A0 H0 H locs) (hA : ∀ q, q < H.size → A1 q → A0 q) (hf : ∀ q, free q → A0 q) (hL : ∀ q ∈ L, free q.base) (hF : va_F A1 st₀ t) :
    H.size ≤ T'.heap.size ∧ (∀ q : Nat, q < H.size → ¬ A1 q → T'.heap[q]? = H[q]?) ∧ va_S A0 H0 T'.heap (locs ++ L) := by
  obtain ⟨hz, hk⟩ := hF
  rw [h0] at hz hk
  exact ⟨by rw [e1]; exact hz, fun q h1 h2 => by rw [e1]; exact hk q h1 h2,
    ⟨Nat.le_trans hS.1 (by rw [e1]; exact hz), fun q h1 h2 => by rw [e1, hk q (Nat.lt_of_lt_of_le h1 hS.1) (fun z => h2 (hA q (Nat.lt_of_lt_of_le h1 hS.1) z))]; exact hS.2.1 q h1 h2, fun q hq => by
      rcases List.mem_append.mp hq with h | h
      · exact hS.2.2 q h
      · exact hf _ (hL q h)⟩⟩
theorem vx_calli {S SX : Type} {post : Int32 → S → Prop} {px : SX → Prop} {B : S → State → Prop} {BX : String → SX → State → Prop} {AX : Nat → Prop} (hr : vx_Run p l e R s m args below meth c H locs cells slots mc ms (F0 m pc ls st0) rest (va_Qi post B A1 a) (vx_X px BX AX) free) (hS : va_S A0 H0 H locs) (hA : ∀ q, q < H.size → A1 q → A0 q) (hf : ∀ q, free q → A0 q) (hAX : ∀ q, q < H.size → AX q → A0 q)
    (kx : ∀ (E : String) (ce : Cell) (q9 : Addr) (u : SX) (t : State) (H1 : Heap) (locs1 : List Loc), t.heap = H1 → s.vm.Alike t.vm → px u → BX E u t → H.size ≤ H1.size → (∀ q : Nat, q < H.size → ¬ AX q → H1[q]? = H[q]?) → va_S A0 H0 H1 locs1 → H1[q9]? = some ce → ce.vm = .none → s.vm.findClass E = some ce.cls → vx_W p l e R s m args below meth c H1 locs1 (cells + mc) (slots + ms) Q (F0 m pc ls rest) q9)
    (kk : ∀ (r : Int32) (u : S) (t : State) (H1 : Heap) (locs1 : List Loc), t.heap = H1 → s.vm.Alike t.vm → post r u → B u t → H.size ≤ H1.size → (∀ q : Nat, q < H.size → ¬ A1 q → H1[q]? = H[q]?) → va_S A0 H0 H1 locs1 → W p l e R s m args below meth c H1 locs1 (cells + mc) (slots + ms) Q (F0 m (pc + 3) ls (.int r :: rest))) : W p l e R s m args below meth c H locs cells slots Q (F0 m pc ls st0) := by
  intro T hT X
  rcases hr T hT X with ⟨v, st₀, t, T', L, h0, X', hL, e1, e2, ⟨⟨r, u, hv, hp, hb⟩, hF⟩, st⟩ | ⟨q, st₀, t, T', L, E, ce, h0, X', hL, e1, e2, ⟨u, hp, hb, hF⟩, hce, hcv, hcl, st⟩
  · cases hv
    obtain ⟨k1, k2, k3⟩ := vx_keep h0 e1 hS hA hf hL hF
    obtain ⟨t2, a1, b1⟩ := kk r u t T'.heap (locs ++ L) e1.symm (by rw [← e2]; exact X'.warmed.alike) hp hb k1 k2 k3 T' rfl X'
    exact ⟨t2, st t2 a1, b1⟩
  · obtain ⟨k1, k2, k3⟩ := vx_keep h0 e1 hS hAX hf hL hF
    obtain ⟨t2, a1, b1⟩ := kx E ce q u t T'.heap (locs ++ L) e1.symm (by rw [← e2]; exact X'.warmed.alike) hp hb k1 k2 k3 (by rw [e1]; exact hce) hcv hcl T' rfl X'
    exact ⟨t2, st.trans a1, b1⟩
theorem vx_calll {S SX : Type} {post : Int64 → S → Prop} {px : SX → Prop} {B : S → State → Prop} {BX : String → SX → State → Prop} {AX : Nat → Prop} (hr : vx_Run p l e R s m args below meth c H locs cells slots mc ms (F0 m pc ls st0) rest (va_Ql post B A1 a) (vx_X px BX AX) free) (hS : va_S A0 H0 H locs) (hA : ∀ q, q < H.size → A1 q → A0 q) (hf : ∀ q, free q → A0 q) (hAX : ∀ q, q < H.size → AX q → A0 q)
    (kx : ∀ (E : String) (ce : Cell) (q9 : Addr) (u : SX) (t : State) (H1 : Heap) (locs1 : List Loc), t.heap = H1 → s.vm.Alike t.vm → px u → BX E u t → H.size ≤ H1.size → (∀ q : Nat, q < H.size → ¬ AX q → H1[q]? = H[q]?) → va_S A0 H0 H1 locs1 → H1[q9]? = some ce → ce.vm = .none → s.vm.findClass E = some ce.cls → vx_W p l e R s m args below meth c H1 locs1 (cells + mc) (slots + ms) Q (F0 m pc ls rest) q9)
    (kk : ∀ (r : Int64) (u : S) (t : State) (H1 : Heap) (locs1 : List Loc), t.heap = H1 → s.vm.Alike t.vm → post r u → B u t → H.size ≤ H1.size → (∀ q : Nat, q < H.size → ¬ A1 q → H1[q]? = H[q]?) → va_S A0 H0 H1 locs1 → W p l e R s m args below meth c H1 locs1 (cells + mc) (slots + ms) Q (F0 m (pc + 3) ls (.long r :: rest))) : W p l e R s m args below meth c H locs cells slots Q (F0 m pc ls st0) := by
  intro T hT X
  rcases hr T hT X with ⟨v, st₀, t, T', L, h0, X', hL, e1, e2, ⟨⟨r, u, hv, hp, hb⟩, hF⟩, st⟩ | ⟨q, st₀, t, T', L, E, ce, h0, X', hL, e1, e2, ⟨u, hp, hb, hF⟩, hce, hcv, hcl, st⟩
  · cases hv
    obtain ⟨k1, k2, k3⟩ := vx_keep h0 e1 hS hA hf hL hF
    obtain ⟨t2, a1, b1⟩ := kk r u t T'.heap (locs ++ L) e1.symm (by rw [← e2]; exact X'.warmed.alike) hp hb k1 k2 k3 T' rfl X'
    exact ⟨t2, st t2 a1, b1⟩
  · obtain ⟨k1, k2, k3⟩ := vx_keep h0 e1 hS hAX hf hL hF
    obtain ⟨t2, a1, b1⟩ := kx E ce q u t T'.heap (locs ++ L) e1.symm (by rw [← e2]; exact X'.warmed.alike) hp hb k1 k2 k3 (by rw [e1]; exact hce) hcv hcl T' rfl X'
    exact ⟨t2, st.trans a1, b1⟩
theorem vx_callf {S SX : Type} {post : UInt32 → S → Prop} {px : SX → Prop} {B : S → State → Prop} {BX : String → SX → State → Prop} {AX : Nat → Prop} (hr : vx_Run p l e R s m args below meth c H locs cells slots mc ms (F0 m pc ls st0) rest (va_Qf post B A1 a) (vx_X px BX AX) free) (hS : va_S A0 H0 H locs) (hA : ∀ q, q < H.size → A1 q → A0 q) (hf : ∀ q, free q → A0 q) (hAX : ∀ q, q < H.size → AX q → A0 q)
    (kx : ∀ (E : String) (ce : Cell) (q9 : Addr) (u : SX) (t : State) (H1 : Heap) (locs1 : List Loc), t.heap = H1 → s.vm.Alike t.vm → px u → BX E u t → H.size ≤ H1.size → (∀ q : Nat, q < H.size → ¬ AX q → H1[q]? = H[q]?) → va_S A0 H0 H1 locs1 → H1[q9]? = some ce → ce.vm = .none → s.vm.findClass E = some ce.cls → vx_W p l e R s m args below meth c H1 locs1 (cells + mc) (slots + ms) Q (F0 m pc ls rest) q9)
    (kk : ∀ (r : UInt32) (u : S) (t : State) (H1 : Heap) (locs1 : List Loc), t.heap = H1 → s.vm.Alike t.vm → post r u → B u t → H.size ≤ H1.size → (∀ q : Nat, q < H.size → ¬ A1 q → H1[q]? = H[q]?) → va_S A0 H0 H1 locs1 → W p l e R s m args below meth c H1 locs1 (cells + mc) (slots + ms) Q (F0 m (pc + 3) ls (.float r :: rest))) : W p l e R s m args below meth c H locs cells slots Q (F0 m pc ls st0) := by
  intro T hT X
  rcases hr T hT X with ⟨v, st₀, t, T', L, h0, X', hL, e1, e2, ⟨⟨r, u, hv, hp, hb⟩, hF⟩, st⟩ | ⟨q, st₀, t, T', L, E, ce, h0, X', hL, e1, e2, ⟨u, hp, hb, hF⟩, hce, hcv, hcl, st⟩
  · cases hv
    obtain ⟨k1, k2, k3⟩ := vx_keep h0 e1 hS hA hf hL hF
    obtain ⟨t2, a1, b1⟩ := kk r u t T'.heap (locs ++ L) e1.symm (by rw [← e2]; exact X'.warmed.alike) hp hb k1 k2 k3 T' rfl X'
    exact ⟨t2, st t2 a1, b1⟩
  · obtain ⟨k1, k2, k3⟩ := vx_keep h0 e1 hS hAX hf hL hF
    obtain ⟨t2, a1, b1⟩ := kx E ce q u t T'.heap (locs ++ L) e1.symm (by rw [← e2]; exact X'.warmed.alike) hp hb k1 k2 k3 (by rw [e1]; exact hce) hcv hcl T' rfl X'
    exact ⟨t2, st.trans a1, b1⟩
theorem vx_calld {S SX : Type} {post : UInt64 → S → Prop} {px : SX → Prop} {B : S → State → Prop} {BX : String → SX → State → Prop} {AX : Nat → Prop} (hr : vx_Run p l e R s m args below meth c H locs cells slots mc ms (F0 m pc ls st0) rest (va_Qd post B A1 a) (vx_X px BX AX) free) (hS : va_S A0 H0 H locs) (hA : ∀ q, q < H.size → A1 q → A0 q) (hf : ∀ q, free q → A0 q) (hAX : ∀ q, q < H.size → AX q → A0 q)
    (kx : ∀ (E : String) (ce : Cell) (q9 : Addr) (u : SX) (t : State) (H1 : Heap) (locs1 : List Loc), t.heap = H1 → s.vm.Alike t.vm → px u → BX E u t → H.size ≤ H1.size → (∀ q : Nat, q < H.size → ¬ AX q → H1[q]? = H[q]?) → va_S A0 H0 H1 locs1 → H1[q9]? = some ce → ce.vm = .none → s.vm.findClass E = some ce.cls → vx_W p l e R s m args below meth c H1 locs1 (cells + mc) (slots + ms) Q (F0 m pc ls rest) q9)
    (kk : ∀ (r : UInt64) (u : S) (t : State) (H1 : Heap) (locs1 : List Loc), t.heap = H1 → s.vm.Alike t.vm → post r u → B u t → H.size ≤ H1.size → (∀ q : Nat, q < H.size → ¬ A1 q → H1[q]? = H[q]?) → va_S A0 H0 H1 locs1 → W p l e R s m args below meth c H1 locs1 (cells + mc) (slots + ms) Q (F0 m (pc + 3) ls (.double r :: rest))) : W p l e R s m args below meth c H locs cells slots Q (F0 m pc ls st0) := by
  intro T hT X
  rcases hr T hT X with ⟨v, st₀, t, T', L, h0, X', hL, e1, e2, ⟨⟨r, u, hv, hp, hb⟩, hF⟩, st⟩ | ⟨q, st₀, t, T', L, E, ce, h0, X', hL, e1, e2, ⟨u, hp, hb, hF⟩, hce, hcv, hcl, st⟩
  · cases hv
    obtain ⟨k1, k2, k3⟩ := vx_keep h0 e1 hS hA hf hL hF
    obtain ⟨t2, a1, b1⟩ := kk r u t T'.heap (locs ++ L) e1.symm (by rw [← e2]; exact X'.warmed.alike) hp hb k1 k2 k3 T' rfl X'
    exact ⟨t2, st t2 a1, b1⟩
  · obtain ⟨k1, k2, k3⟩ := vx_keep h0 e1 hS hAX hf hL hF
    obtain ⟨t2, a1, b1⟩ := kx E ce q u t T'.heap (locs ++ L) e1.symm (by rw [← e2]; exact X'.warmed.alike) hp hb k1 k2 k3 (by rw [e1]; exact hce) hcv hcl T' rfl X'
    exact ⟨t2, st.trans a1, b1⟩
theorem vx_callv {S SX : Type} {post : S → Prop} {px : SX → Prop} {B : S → State → Prop} {BX : String → SX → State → Prop} {AX : Nat → Prop} (hr : vx_Run p l e R s m args below meth c H locs cells slots mc ms (F0 m pc ls st0) rest (va_Qv post B A1 a) (vx_X px BX AX) free) (hS : va_S A0 H0 H locs) (hA : ∀ q, q < H.size → A1 q → A0 q) (hf : ∀ q, free q → A0 q) (hAX : ∀ q, q < H.size → AX q → A0 q)
    (kx : ∀ (E : String) (ce : Cell) (q9 : Addr) (u : SX) (t : State) (H1 : Heap) (locs1 : List Loc), t.heap = H1 → s.vm.Alike t.vm → px u → BX E u t → H.size ≤ H1.size → (∀ q : Nat, q < H.size → ¬ AX q → H1[q]? = H[q]?) → va_S A0 H0 H1 locs1 → H1[q9]? = some ce → ce.vm = .none → s.vm.findClass E = some ce.cls → vx_W p l e R s m args below meth c H1 locs1 (cells + mc) (slots + ms) Q (F0 m pc ls rest) q9)
    (kk : ∀ (u : S) (t : State) (H1 : Heap) (locs1 : List Loc), t.heap = H1 → s.vm.Alike t.vm → post u → B u t → H.size ≤ H1.size → (∀ q : Nat, q < H.size → ¬ A1 q → H1[q]? = H[q]?) → va_S A0 H0 H1 locs1 → W p l e R s m args below meth c H1 locs1 (cells + mc) (slots + ms) Q (F0 m (pc + 3) ls (rest))) : W p l e R s m args below meth c H locs cells slots Q (F0 m pc ls st0) := by
  intro T hT X
  rcases hr T hT X with ⟨v, st₀, t, T', L, h0, X', hL, e1, e2, ⟨⟨u, hv, hp, hb⟩, hF⟩, st⟩ | ⟨q, st₀, t, T', L, E, ce, h0, X', hL, e1, e2, ⟨u, hp, hb, hF⟩, hce, hcv, hcl, st⟩
  · cases hv
    obtain ⟨k1, k2, k3⟩ := vx_keep h0 e1 hS hA hf hL hF
    obtain ⟨t2, a1, b1⟩ := kk u t T'.heap (locs ++ L) e1.symm (by rw [← e2]; exact X'.warmed.alike) hp hb k1 k2 k3 T' rfl X'
    exact ⟨t2, st t2 a1, b1⟩
  · obtain ⟨k1, k2, k3⟩ := vx_keep h0 e1 hS hAX hf hL hF
    obtain ⟨t2, a1, b1⟩ := kx E ce q u t T'.heap (locs ++ L) e1.symm (by rw [← e2]; exact X'.warmed.alike) hp hb k1 k2 k3 (by rw [e1]; exact hce) hcv hcl T' rfl X'
    exact ⟨t2, st.trans a1, b1⟩
/-- caught by the row x of this method's table; the rows ahead don't take it -/
theorem vx_catch {own name : String} {E : String} {ce : Cell} {q : Addr} (hown : s.vm.findClass own = some m.cls) (pre : List ExceptionTableEntry) (x : ExceptionTableEntry) (suf : List ExceptionTableEntry) (hsplit : c.exceptionTable.toList = pre ++ x :: suf)
    (hpass : ∀ z ∈ pre, covers z pc = false ∨ (z.catchType ≠ 0 ∧ ∃ nm : String, (Cond.classLink own z.catchType nm).before args s = true ∧ va_Nc E nm s)) (hx : covers x pc = true) (h0 : x.catchType ≠ 0)
    (hlink : (Cond.classLink own x.catchType name).before args s = true) (hcast : (Cond.castable E name).before args s = true) (hcell : H[q]? = some ce) (hv : ce.vm = .none) (hcl : s.vm.findClass E = some ce.cls)
    (kk : W p l e R s m args below meth c H locs cells slots Q (F0 m x.handlerPc ls [.ref q])) : vx_W p l e R s m args below meth c H locs cells slots Q (F0 m pc ls rest) q := by
  intro T hT X
  have hpl : e.platform.magicAccessors = ({} : Platform).magicAccessors := by rw [X.admits.platform]
  obtain ⟨c3, c4, hc3, hc4, hasg⟩ := Cond.castable_spec hcast
  cases Option.some.inj (hc3.symm.trans hcl)
  obtain ⟨c5, hc5, hcl5⟩ := Cond.classLink_spec hown hlink e.platform hpl
  cases Option.some.inj (hc4.symm.trans hc5)
  obtain ⟨vm', X', st⟩ := X.thenCaughtThrough q (g := F0 m pc ls rest) rfl (Steps.refl _) (by rw [hT]; exact hcell) (by rw [hv]; rfl) (by obtain ⟨k9, h9, -⟩ := Vm.findClass_spec hcl; exact ⟨k9, h9⟩) pre x suf hsplit
    (fun z hz => by
      rcases hpass z hz with h | ⟨hz0, nm, hl1, hn1⟩
      · exact Or.inl h
      · obtain ⟨c6, hc6, hcl6⟩ := Cond.classLink_spec hown hl1 e.platform hpl
        obtain ⟨a8, b8, h1, h2, h3⟩ := hn1
        cases Option.some.inj (h1.symm.trans hcl)
        cases Option.some.inj (h2.symm.trans hc6)
        exact Or.inr ⟨hz0, _, hcl6, h3⟩) hx (Or.inr ⟨h0, c4, hcl5, hasg⟩)
  obtain ⟨t, a1, b1⟩ := kk (T.setVm vm') hT X'
  exact ⟨t, st.trans a1, b1⟩
end Rows
section Ends
variable {p : Program} {l : Launch} {e : Env} {R : Room} {s : State} {m : MethodId} {args : Array Value} {below : List Frame} {meth : Method} {c : Code} {H : Heap} {locs : List Loc} {cells slots : Nat} {Q : State → Prop}
variable {mc ms : Nat} {free : Addr → Prop} {A0 A1 : Nat → Prop} {H0 : Heap} {a : Array Value} {ls : Array Slot} {st0 rest : List Value}
variable {Qc : Array Value → State → Outcome → State → Prop} {XC : String → State → State → Prop}
/-- what a body that may throw owes at its end -/
def vx_MQ (below : List Frame) (Qc : Array Value → State → Outcome → State → Prop) (XC : String → State → State → Prop) (a : Array Value) (s : State) (mc ms : Nat) (free : Addr → Prop) : State → Prop := fun t =>
  ∃ o, t.status = .running ∧ Ended t below o ∧ vx_Q Qc XC mc ms free a s o t
theorem vx_ret {g : JFrame} {mc ms : Nat} (k : W p l e R s m args below meth c H locs cells slots (MQ below Qc args s mc ms free) g) : W p l e R s m args below meth c H locs cells slots (vx_MQ below Qc XC args s mc ms free) g := by
  intro T hT X
  obtain ⟨t, a1, o, b1, b2, b3, b4⟩ := k T hT X
  exact ⟨t, a1, o, b1, b2, Or.inl ⟨b3, b4⟩⟩
/-- not caught here: it goes on to the caller -/
theorem vx_widen {g : JFrame} {q : Addr} {k n : Nat} (h1 : cells ≤ k) (h2 : slots ≤ n) (kk : vx_W p l e R s m args below meth c H locs k n Q g q) : vx_W p l e R s m args below meth c H locs cells slots Q g q := fun T hT X => kk T hT (stand_widen X h1 h2)
theorem vx_out {pc : Nat} {E : String} {ce : Cell} {q : Addr} {mc ms : Nat} (hout : ∀ x ∈ c.exceptionTable.toList, covers x pc = false) (hlocks : meth.locks = false) (hcell : H[q]? = some ce) (hv : ce.vm = .none) (hcl : s.vm.findClass E = some ce.cls)
    (hx : ∀ t : State, t.heap = H → s.vm.Alike t.vm → XC E s t) (hf : ∀ z ∈ locs, free z.base) (hc : cells ≤ mc) (hs : slots ≤ ms) :
    vx_W p l e R s m args below meth c H locs cells slots (vx_MQ below Qc XC args s mc ms free) (F0 m pc ls rest) q := by
  intro T hT X
  obtain ⟨st1, hrun, hend, hW, hsm⟩ := X.leaveThrown q (g := F0 m pc ls rest) rfl rfl rfl hout hlocks
  have hcell9 : (T.setFrames (.throwing q :: below)).heap[q]? = some ce := by
    show T.heap[q]? = some ce
    rw [hT]; exact hcell
  exact ⟨_, st1, .threw q, hrun, hend, Or.inr ⟨q, rfl, E, ce, locs, hx _ hT hW.alike, hcell9, hv, hcl, hW, hsm.mono hc hs, hf⟩⟩
theorem vx_frame {U : State} {k n : Nat} (h : s.sameButNew ({ U with vm := s.vm } : State) locs k n) : s.heap.size ≤ U.heap.size ∧ ∀ q : Nat, q < s.heap.size → (∀ z ∈ locs, z.base ≠ q) → U.heap[q]? = s.heap[q]? := by
  obtain ⟨-, h2, -, -, -, h6⟩ := h
  refine ⟨h2, fun q hq hz => ?_⟩
  obtain ⟨c9, e1, e2, e3, e4⟩ := h6 q _ (Array.getElem?_eq_getElem hq)
  have hs : c9.slots = (s.heap[q]).slots := Array.ext_getElem? fun i => e4 i fun hm => hz _ hm rfl
  have h9 : c9 = s.heap[q] := by
    rw [hs] at e2
    exact e2
  have e5 : U.heap[q]? = some c9 := e1
  rw [e5, h9, Array.getElem?_eq_getElem hq]
/-- the words of a throw but the four that speak of the heap -/
def vx_no (w : Cond) : Bool := decide (w ≠ .isRef (.static Bundle.tN "UNASSIGNED_STACK" Bundle.steD)) && decide (w ≠ .isRef (.static Bundle.tN "SUPPRESSED_SENTINEL" Bundle.listD)) && decide (w ≠ .laysStatic Bundle.tN "UNASSIGNED_STACK" Bundle.steD) && decide (w ≠ .laysStatic Bundle.tN "SUPPRESSED_SENTINEL" Bundle.listD)
def vx_at0 (own : String) (ic : Nat) (X : String) (names : List String) : List Cond := (Bundle.ownAtoms0 own ic X names).filter vx_no
def vx_atS (own : String) (ic : Nat) (X : String) (names : List String) : List Cond := (Bundle.ownAtoms own ic X names).filter vx_no
/-- a word that the tables alone decide, or a good one -/
def vx_ot (w : Cond) : Bool := w.onTables || goodWord w
theorem vx_ot_at {args a' : Array Value} {s U : State} {w : Cond} (hW : s.WarmedH U.vm) (hvm : s.vm = U.vm) (hg : vx_ot w = true) (h : w.before args s = true) : w.before a' U = true := by
  simp only [vx_ot, Bool.or_eq_true] at hg
  rcases hg with hg | hg
  · exact va_tabs hg hvm h
  · exact word_at hW (good_of_word hg) h
/-- a list's words: the good ones out of the method's own list, the others by premises of their own -/
theorem vx_hat {args : Array Value} {s : State} {L B : List Cond} (h1 : ∀ w ∈ L.filter goodWord, w.before args s = true) (h2 : ∀ w ∈ L.filter (fun w => !goodWord w), w ∈ B) (h3 : ∀ w ∈ B, w.before args s = true) : ∀ w ∈ L, w.before args s = true := by
  intro w hw
  by_cases g : goodWord w = true
  · exact h1 w (List.mem_filter.mpr ⟨hw, g⟩)
  · refine h3 w (h2 w (List.mem_filter.mpr ⟨hw, ?_⟩))
    show (!goodWord w) = true
    cases hgw : goodWord w
    · rfl
    · exact absurd hgw g
theorem vx_c {args : Array Value} {s : State} {w : Cond} {B : List Cond} (h : w.before args s = true) (t : ∀ w ∈ B, w.before args s = true) : ∀ w' ∈ w :: B, w'.before args s = true := fun w' h' => (List.mem_cons.mp h').elim (fun e => by rw [e]; exact h) (t w')
theorem vx_n {args : Array Value} {s : State} : ∀ w ∈ ([] : List Cond), w.before args s = true := fun _ h => nomatch h
theorem vx_own {args : Array Value} {s : State} {L : List Cond} (h1 : ∀ w ∈ L.filter vx_no, w.before args s = true)
    (hU : (Cond.isRef (.static Bundle.tN "UNASSIGNED_STACK" Bundle.steD)).before args s = true) (hN : (Cond.isRef (.static Bundle.tN "SUPPRESSED_SENTINEL" Bundle.listD)).before args s = true)
    (lU : (Cond.laysStatic Bundle.tN "UNASSIGNED_STACK" Bundle.steD).before args s = true) (lN : (Cond.laysStatic Bundle.tN "SUPPRESSED_SENTINEL" Bundle.listD).before args s = true) : ∀ w ∈ L, w.before args s = true := by
  intro w hw
  by_cases e1 : w = .isRef (.static Bundle.tN "UNASSIGNED_STACK" Bundle.steD)
  · rw [e1]; exact hU
  · by_cases e2 : w = .isRef (.static Bundle.tN "SUPPRESSED_SENTINEL" Bundle.listD)
    · rw [e2]; exact hN
    · by_cases e3 : w = .laysStatic Bundle.tN "UNASSIGNED_STACK" Bundle.steD
      · rw [e3]; exact lU
      · by_cases e4 : w = .laysStatic Bundle.tN "SUPPRESSED_SENTINEL" Bundle.listD
        · rw [e4]; exact lN
        · exact h1 w (List.mem_filter.mpr ⟨hw, by unfold vx_no; rw [decide_eq_true e1, decide_eq_true e2, decide_eq_true e3, decide_eq_true e4]; rfl⟩)
/-- where a static field lies, its class's statics cell in H -/
def vx_L (C n d : String) (A : Nat → Prop) (U : State) (H : Heap) : Prop := ∃ (c : ClassId) (k : Class) (i : Nat) (f : Field) (a : Nat) (cell : Cell), U.vm.findClass C = some c ∧ U.fieldFound? C n d = some (c, k, i, f) ∧ f.isStatic = true ∧ k.statics = some a ∧ H[a]? = some cell ∧ cell.vm.isStatics = true ∧ cell.cls = c ∧ f.slot < cell.slots.size ∧ k.staticTypes[f.slot]? = some f.type ∧ ¬ A a
theorem vx_L.moved {C n d : String} {A : Nat → Prop} {u U : State} {H : Heap} (hvm : u.vm.Alike U.vm) (h : vx_L C n d A u H) : vx_L C n d A U H := by
  obtain ⟨c, k, i, f, a, cell, h1, h2, h3, h4, h5, h6, h7, h8, h9, h10⟩ := h
  obtain ⟨k', hi', he⟩ := State.fieldFound?_setVm hvm h2
  exact ⟨c, k', i, f, a, cell, by rw [hvm.findClass]; exact h1, hi', h3, by rw [he]; exact h4, h5, h6, h7, h8, by rw [he]; exact h9, h10⟩
theorem vx_L.kept {C n d : String} {A : Nat → Prop} {U : State} {H H1 : Heap} (h : vx_L C n d A U H) (hq : ∀ a : Nat, a < H.size → ¬ A a → H1[a]? = H[a]?) : vx_L C n d A U H1 := by
  obtain ⟨c, k, i, f, a, cell, h1, h2, h3, h4, h5, h6, h7, h8, h9, h10⟩ := h
  exact ⟨c, k, i, f, a, cell, h1, h2, h3, h4, by rw [hq a (Array.getElem?_eq_some_iff.mp h5).1 h10]; exact h5, h6, h7, h8, h9, h10⟩
theorem vx_L.narrow {C n d : String} {A B : Nat → Prop} {U : State} {H : Heap} (h : vx_L C n d A U H) (hAB : ∀ q, B q → A q) : vx_L C n d B U H := by
  obtain ⟨c, k, i, f, a, cell, h1, h2, h3, h4, h5, h6, h7, h8, h9, h10⟩ := h
  exact ⟨c, k, i, f, a, cell, h1, h2, h3, h4, h5, h6, h7, h8, h9, fun z => h10 (hAB _ z)⟩
theorem vx_L.word {C n d : String} {A : Nat → Prop} {s : State} {args : Array Value} (h : vx_L C n d A s s.heap) : (Cond.laysStatic C n d).before args s = true := by
  obtain ⟨c, k, i, f, a, cell, h1, h2, h3, h4, h5, h6, h7, h8, h9, -⟩ := h
  show (Cond.laysStatic C n d).holds args s none s [] = true
  exact Cond.laysStatic_of h1 h2 h3 h4 h5 h6 h7 h8 h9
/-- .. and what it holds: null or some reference -/
def vx_Zq (C n d : String) (A : Nat → Prop) (U : State) (H : Heap) : Prop := va_Zq C n d A U H ∧ vx_L C n d A U H
theorem vx_Zq.moved {C n d : String} {A : Nat → Prop} {u U : State} {H : Heap} (hvm : u.vm.Alike U.vm) (h : vx_Zq C n d A u H) : vx_Zq C n d A U H := ⟨va_Zq.moved hvm h.1, vx_L.moved hvm h.2⟩
theorem vx_Zq.kept {C n d : String} {A : Nat → Prop} {U : State} {H H1 : Heap} (h : vx_Zq C n d A U H) (hq : ∀ a : Nat, a < H.size → ¬ A a → H1[a]? = H[a]?) : vx_Zq C n d A U H1 := ⟨va_Zq.kept h.1 hq, vx_L.kept h.2 hq⟩
theorem vx_Zq.narrow {C n d : String} {A B : Nat → Prop} {U : State} {H : Heap} (h : vx_Zq C n d A U H) (hAB : ∀ q, B q → A q) : vx_Zq C n d B U H := ⟨va_Zq.narrow h.1 hAB, vx_L.narrow h.2 hAB⟩
theorem vx_Zqof {args : Array Value} {s : State} {C n d : String} {A : Nat → Prop} (hl : (Cond.laysStatic C n d).before args s = true) (hini : (Cond.initialized C).before args s = true) (h : (Cond.isRef (.static C n d)).before args s = true) (hA : ∀ a : Nat, a < s.heap.size → ¬ A a) : vx_Zq C n d A s s.heap := by
  refine ⟨va_Zqof hl hini h hA, ?_⟩
  obtain ⟨c, k, i, f, a, cell, h1, h2, h3, h4, h5, h6, h7, h8, h9⟩ := Cond.laysStatic_spec hl
  exact ⟨c, k, i, f, a, cell, h1, h2, h3, h4, h5, h6, h7, h8, h9, hA a (Array.getElem?_eq_some_iff.mp h5).1⟩
theorem vx_isRef {C n d : String} {v : Value} {A : Nat → Prop} {s : State} {args : Array Value} (h : va_Z C n d v A s s.heap) (hv : v.isRef = true) : (Cond.isRef (.static C n d)).before args s = true := by
  obtain ⟨cf, kf, fi, f, a, cell, h1, h2, h3, h4, h5, h6, h7, -⟩ := h
  have he : (Term.static C n d).eval args s none [] s = some v := by
    simp [Term.eval, State.fieldNamed?, h1, h2, h4, h5, h6, h7]
  simp only [Cond.before, Cond.holds, Cond.value, he]
  cases v <;> simp_all [Value.isRef]
theorem vx_isRefq {C n d : String} {A : Nat → Prop} {s : State} {args : Array Value} (h : va_Zq C n d A s s.heap) : (Cond.isRef (.static C n d)).before args s = true := by
  rcases h with h | ⟨t, h⟩
  · exact vx_isRef h rfl
  · exact vx_isRef h rfl
/-- the same frame, seen from here: as if the method were called anew in this heap -/
theorem vx_rebase {T : State} (X : Stand p l e R s m args below meth c T locs cells slots) {R' : Room} (hf : R'.frames ≤ R.frames) (hl : R'.locals ≤ R.locals) (hc : cells + R'.cells ≤ R.cells) (hs : slots + R'.slots ≤ R.slots) :
    Stand p l e R' ((T.setVm s.vm).setFrames (.invoking m args :: below)) m args below meth c T [] 0 0 := by
  have htop : (T.setVm s.vm).topJava?.isSome := X.here.top
  have hF : ((T.setVm s.vm).setFrames (.invoking m args :: below)).frames = .invoking m args :: below := State.frames_setFrames _ (State.cur_lt_of_top htop)
  obtain ⟨g₀, hg0⟩ := Option.isSome_iff_exists.mp htop
  obtain ⟨r, hr⟩ := State.topJava?_eq_some.mp hg0
  have hl9 : e.platform.stackLimits (T.setVm s.vm).me = e.platform.stackLimits s.me := X.limits
  have hb9 : (T.setVm s.vm).me.stackBytes = s.me.stackBytes := X.bytes
  refine ⟨X.admits, X.cas, X.clock, hF, ?_, X.hears, X.method, X.code, X.here, X.tail, X.warmed, ?_, ?_, ?_⟩
  · have h := X.room
    have hU : ((T.setVm s.vm).setFrames (.invoking m args :: below)).localsInUse = s.localsInUse := by
      rw [State.localsInUse_invoking hF (meth := meth) (c := c) X.method X.code, State.localsInUse_invoking X.frames X.method X.code]
    simp only [State.hasRoom, Bool.and_eq_true, decide_eq_true_eq] at h ⊢
    obtain ⟨⟨⟨⟨h1, h2, h3, h4, h5, h6⟩, h7⟩, h8⟩, h9⟩ := h
    rw [X.frames, List.length_cons] at h2 h3
    have q1 := X.heapSize
    have q2 := X.used
    simp only [hF, hU, List.length_cons, State.stackLimits_setFrames, State.stackBytes_setFrames, hl9, hb9]
    refine ⟨⟨⟨⟨by omega, by omega, by omega, by omega, by omega, h6⟩, ?_⟩, ?_⟩, X.book⟩
    · show T.heap.size + R'.cells ≤ e.platform.maxCells
      omega
    · show T.slotsUsed + R'.slots ≤ e.platform.maxSlots
      omega
  · rw [State.stackLimits_setFrames]; rfl
  · rw [State.stackBytes_setFrames]; rfl
  · refine ⟨?_, Nat.le_refl _, Nat.le_refl _, ?_, ?_, fun a c9 h9 => ⟨c9, h9, rfl, rfl, fun _ _ => rfl⟩⟩
    · obtain ⟨t, ht, -⟩ := State.frames_cons hr
      show T.setVm s.vm = { ((T.setVm s.vm).setFrames (.invoking m args :: below)).setFrames (T.setVm s.vm).frames with heap := T.heap, slotsUsed := T.slotsUsed }
      rw [State.setFrames_setFrames, State.setFrames_self ht]
      rfl
    · show T.slotsUsed = T.slotsUsed + ((T.heap.toList.drop T.heap.size).map (·.slots.size)).sum
      rw [List.drop_eq_nil_of_le (Nat.le_of_eq Array.length_toList)]
      rfl
    · show ((T.heap.toList.drop T.heap.size).map (·.slots.size)).sum ≤ 0
      rw [List.drop_eq_nil_of_le (Nat.le_of_eq Array.length_toList)]
      exact Nat.le_refl _
/-- 'throw new E()': new; dup; invokespecial; athrow -/
theorem vx_throw0 {cc : ByteArray} {pc : Nat} (hexec : p.tables.exec = Jvm.exec) (hb : c.code = cc) (hl : l.stackTraces = false) {own cls : String} {names : List String} {ik ic mc ms : Nat} {A : Nat → Prop}
    (hown : s.vm.findClass own = some m.cls) (hcls : Bundle.fit cls = true) (hnames : ∀ n ∈ names, Bundle.fit n = true)
    (hk : (Cond.classLink own ik cls).before args s = true) (hini : (Cond.initialized cls).before args s = true) (hat : ∀ w ∈ vx_at0 own ic cls names, w.before args s = true)
    (hgood : ∀ w ∈ Cond.classLink own ik cls :: Cond.initialized cls :: vx_at0 own ic cls names, vx_ot w = true)
    (hU : vx_Zq Bundle.tN "UNASSIGNED_STACK" Bundle.steD A s s.heap) (hN : vx_Zq Bundle.tN "SUPPRESSED_SENTINEL" Bundle.listD A s s.heap) (hS : va_S A s.heap H locs) (hsize : ls.size = c.maxLocals)
    (d0 : decode cc pc = .ok (.new ik, 3)) (d3 : decode cc (pc + 3) = .ok (.dup, 1)) (d4 : decode cc (pc + 4) = .ok (.invokespecial ic, 3)) (d7 : decode cc (pc + 7) = .ok (.athrow, 1))
    (hout : ∀ x ∈ c.exceptionTable.toList, covers x (pc + 7) = false)
    (hRframes : names.length + 3 < R.frames) (hRlocals : (rest.map fun v => v.category).sum + (13 * (names.length + 1) + 42) ≤ R.locals) (hRcells : cells + 1 ≤ R.cells) (hRslots : slots + 6 ≤ R.slots) (hlocks : meth.locks = false)
    (hx : ∀ t : State, s.vm.Alike t.vm → H.size ≤ t.heap.size → (∀ q : Nat, q < H.size → t.heap[q]? = H[q]?) → XC cls s t)
    (hf : ∀ z ∈ locs, free z.base) (hc : cells + 1 ≤ mc) (hs : slots + 6 ≤ ms) :
    W p l e R s m args below meth c H locs cells slots (vx_MQ below Qc XC args s mc ms free) (F0 m pc ls rest) := by
  intro T hT X
  have htr : e.platform.stackTraces = false := (show e.platform.stackTraces = l.stackTraces by rw [X.admits.platform]).trans hl
  have Y := vx_rebase X (R' := { frames := R.frames, locals := R.locals, cells := 1, slots := 6 }) (Nat.le_refl _) (Nat.le_refl _) hRcells hRslots
  obtain ⟨s', hA⟩ : ∃ z, z = (T.setVm s.vm).setFrames (.invoking m args :: below) := ⟨_, rfl⟩
  rw [← hA] at Y
  have hvm : s'.vm = s.vm := by rw [hA]; rfl
  have hhp : s'.heap = H := by rw [hA]; exact hT
  have hW0 : s.WarmedH s'.vm := by rw [hvm]; exact State.WarmedH.refl s
  have hat' : ∀ w ∈ vx_at0 own ic cls names, w.before args s' = true := fun w hw => vx_ot_at hW0 hvm.symm (hgood w (List.mem_cons_of_mem _ (List.mem_cons_of_mem _ hw))) (hat w hw)
  have hk' : (Cond.classLink own ik cls).before args s' = true := vx_ot_at hW0 hvm.symm (hgood _ List.mem_cons_self) hk
  have hini' : (Cond.initialized cls).before args s' = true := vx_ot_at hW0 hvm.symm (hgood _ (List.mem_cons_of_mem _ List.mem_cons_self)) hini
  have hU' : vx_Zq Bundle.tN "UNASSIGNED_STACK" Bundle.steD A s' s'.heap := by rw [hhp]; exact vx_Zq.moved hW0.alike (hU.kept hS.2.1)
  have hN' : vx_Zq Bundle.tN "SUPPRESSED_SENTINEL" Bundle.listD A s' s'.heap := by rw [hhp]; exact vx_Zq.moved hW0.alike (hN.kept hS.2.1)
  have h : ∀ w ∈ Bundle.ownAtoms0 own ic cls names, w.before args s' = true := vx_own hat' (vx_isRefq hU'.1) (vx_isRefq hN'.1) hU'.2.word hN'.2.word
  have hown' : s'.vm.findClass own = some m.cls := by rw [hvm]; exact hown
  have hins : (Cond.instantiable cls 6).before args s' = true := h _ (by simp [Bundle.ownAtoms0])
  obtain ⟨vm₁, cX, kX, hfX, hkX, -, -, X₁, st1⟩ := Y.newCold hexec (own := own) (C := cls) (index := ik) (n := 6) hown' hk' hins hini'
    (g := F0 m pc ls rest) rfl (by rw [hb]; exact d0) (Nat.le_refl _) (Nat.le_refl _)
  generalize hT1 : (T.setVm vm₁).pushCell { cls := cX, slots := kX.instanceTypes.map defaultValue, vm := .none } = T1 at X₁ st1
  have hcat : (Value.ref T.heap.size).category = 1 := rfl
  have hcellA : T1.heap[T.heap.size]? = some (freshCell cX kX) := by rw [← hT1]; exact State.heap_pushCell_size _ _
  have d3' : decode c.code (pc + 3) = .ok (.dup, 1) := by rw [hb]; exact d3
  obtain ⟨U, hsteps, hrun, hend, hW, hsame, ce, hce, hO⟩ := X₁.ctorThrow0 hexec htr (own := own) (cls := cls) (names := names) (ic := ic) hown' hcls hnames h (fun x hx => nomatch hx) hfX hkX hcellA (by rw [hhp, hT]; exact Nat.le_refl _)
    (g := { method := m, pc := pc + 4, locals := ls, stack := .ref T.heap.size :: .ref T.heap.size :: rest, locked := none }) rfl hsize rfl rfl (rest := rest) rfl
    (by rw [hb]; exact d4) (by rw [hb]; exact d7) hout hRframes (by simp only [List.map_cons, List.sum_cons, hcat]; omega) hlocks
  obtain ⟨f1, f2⟩ := vx_frame hsame
  rw [hhp] at f1 f2
  have hWs : s.WarmedH U.vm := State.WarmedH.trans hW0 hW
  have hcl : s.vm.findClass cls = some ce.cls := by
    have h9 := hO.cls
    rw [hvm] at h9
    exact h9
  have hall : s.sameButNew ({ U with vm := s.vm } : State) locs mc ms := by
    subst hA
    obtain ⟨e1, e2⟩ := hsame
    rw [State.setFrames_setFrames] at e1
    have h2 : (T.setVm s.vm).sameButNew ({ U with vm := s.vm } : State) [] (0 + 1) (0 + 6) := ⟨e1, e2⟩
    have h3 := X.same.trans h2
    rw [List.append_nil] at h3
    exact h3.mono hc hs
  refine ⟨U, ?_, .threw T.heap.size, hrun, hend, Or.inr ⟨T.heap.size, rfl, cls, ce, locs, hx U hWs.alike f1 (fun q hq => f2 q hq (fun z hz => nomatch hz)), hce, hO.vm, hcl, hWs, hall, hf⟩⟩
  refine st1 _ ?_
  show Steps p.tables e below (T1.setTop { method := m, pc := pc + 3, locals := ls, stack := .ref T.heap.size :: rest, locked := none }) _
  jvm_step X₁.here [X₁.here.top, hexec, d3', Value.category]
  exact hsteps
/-- 'throw new E("text")': new; dup; ldc; invokespecial; athrow -/
theorem vx_throwS {cc : ByteArray} {pc : Nat} (hexec : p.tables.exec = Jvm.exec) (hb : c.code = cc) (hl : l.stackTraces = false) {own cls text : String} {names : List String} {ik is ic mc ms sa : Nat} {A : Nat → Prop}
    (hown : s.vm.findClass own = some m.cls) (hcls : Bundle.fit cls = true) (hnames : ∀ n ∈ names, Bundle.fit n = true)
    (hk : (Cond.classLink own ik cls).before args s = true) (hini : (Cond.initialized cls).before args s = true) (hstr : vk_R own is text sa s) (hat : ∀ w ∈ vx_atS own ic cls names, w.before args s = true)
    (hgood : ∀ w ∈ Cond.classLink own ik cls :: Cond.initialized cls :: vx_atS own ic cls names, vx_ot w = true)
    (hU : vx_Zq Bundle.tN "UNASSIGNED_STACK" Bundle.steD A s s.heap) (hN : vx_Zq Bundle.tN "SUPPRESSED_SENTINEL" Bundle.listD A s s.heap) (hS : va_S A s.heap H locs) (hsize : ls.size = c.maxLocals)
    (d0 : decode cc pc = .ok (.new ik, 3)) (d3 : decode cc (pc + 3) = .ok (.dup, 1)) (d4 : decode cc (pc + 4) = .ok (.ldc is, 2)) (d6 : decode cc (pc + 6) = .ok (.invokespecial ic, 3)) (d9 : decode cc (pc + 9) = .ok (.athrow, 1))
    (hout : ∀ x ∈ c.exceptionTable.toList, covers x (pc + 9) = false)
    (hRframes : names.length + 3 < R.frames) (hRlocals : (rest.map fun v => v.category).sum + (13 * (names.length + 1) + 43) ≤ R.locals) (hRcells : cells + 1 ≤ R.cells) (hRslots : slots + 6 ≤ R.slots) (hlocks : meth.locks = false)
    (hx : ∀ t : State, s.vm.Alike t.vm → H.size ≤ t.heap.size → (∀ q : Nat, q < H.size → t.heap[q]? = H[q]?) → XC cls s t)
    (hf : ∀ z ∈ locs, free z.base) (hc : cells + 1 ≤ mc) (hs : slots + 6 ≤ ms) :
    W p l e R s m args below meth c H locs cells slots (vx_MQ below Qc XC args s mc ms free) (F0 m pc ls rest) := by
  intro T hT X
  have htr : e.platform.stackTraces = false := (show e.platform.stackTraces = l.stackTraces by rw [X.admits.platform]).trans hl
  have Y := vx_rebase X (R' := { frames := R.frames, locals := R.locals, cells := 1, slots := 6 }) (Nat.le_refl _) (Nat.le_refl _) hRcells hRslots
  obtain ⟨s', hA⟩ : ∃ z, z = (T.setVm s.vm).setFrames (.invoking m args :: below) := ⟨_, rfl⟩
  rw [← hA] at Y
  have hvm : s'.vm = s.vm := by rw [hA]; rfl
  have hhp : s'.heap = H := by rw [hA]; exact hT
  have hW0 : s.WarmedH s'.vm := by rw [hvm]; exact State.WarmedH.refl s
  have hat' : ∀ w ∈ vx_atS own ic cls names, w.before args s' = true := fun w hw => vx_ot_at hW0 hvm.symm (hgood w (List.mem_cons_of_mem _ (List.mem_cons_of_mem _ hw))) (hat w hw)
  have hk' : (Cond.classLink own ik cls).before args s' = true := vx_ot_at hW0 hvm.symm (hgood _ List.mem_cons_self) hk
  have hini' : (Cond.initialized cls).before args s' = true := vx_ot_at hW0 hvm.symm (hgood _ (List.mem_cons_of_mem _ List.mem_cons_self)) hini
  have hU' : vx_Zq Bundle.tN "UNASSIGNED_STACK" Bundle.steD A s' s'.heap := by rw [hhp]; exact vx_Zq.moved hW0.alike (hU.kept hS.2.1)
  have hN' : vx_Zq Bundle.tN "SUPPRESSED_SENTINEL" Bundle.listD A s' s'.heap := by rw [hhp]; exact vx_Zq.moved hW0.alike (hN.kept hS.2.1)
  have h : ∀ w ∈ Bundle.ownAtoms own ic cls names, w.before args s' = true := vx_own hat' (vx_isRefq hU'.1) (vx_isRefq hN'.1) hU'.2.word hN'.2.word
  have hown' : s'.vm.findClass own = some m.cls := by rw [hvm]; exact hown
  have hins : (Cond.instantiable cls 6).before args s' = true := h _ (by simp [Bundle.ownAtoms])
  obtain ⟨vm₁, cX, kX, hfX, hkX, -, -, X₁, st1⟩ := Y.newCold hexec (own := own) (C := cls) (index := ik) (n := 6) hown' hk' hins hini'
    (g := F0 m pc ls rest) rfl (by rw [hb]; exact d0) (Nat.le_refl _) (Nat.le_refl _)
  generalize hT1 : (T.setVm vm₁).pushCell { cls := cX, slots := kX.instanceTypes.map defaultValue, vm := .none } = T1 at X₁ st1
  have hcat : (Value.ref T.heap.size).category = 1 := rfl
  have hcellA : T1.heap[T.heap.size]? = some (freshCell cX kX) := by rw [← hT1]; exact State.heap_pushCell_size _ _
  have d3' : decode c.code (pc + 3) = .ok (.dup, 1) := by rw [hb]; exact d3
  have d4' : decode c.code (pc + 4) = .ok (.ldc is, 2) := by rw [hb]; exact d4
  have hstr' : vk_R own is text sa s' := vk_R.warm hW0 hstr
  obtain ⟨U, hsteps, hrun, hend, hW, hsame, ce, hce, hO⟩ := X₁.ctorThrowS hexec htr (own := own) (cls := cls) (names := names) (ic := ic) hown' hcls hnames h (fun x hx => nomatch hx) hfX hkX hcellA (by rw [hhp, hT]; exact Nat.le_refl _) (msg := .ref sa) rfl
    (g := { method := m, pc := pc + 6, locals := ls, stack := .ref sa :: .ref T.heap.size :: .ref T.heap.size :: rest, locked := none }) rfl hsize rfl rfl (rest := rest) rfl
    (by rw [hb]; exact d6) (by rw [hb]; exact d9) hout hRframes (by simp only [List.map_cons, List.sum_cons, hcat]; omega) hlocks
  obtain ⟨f1, f2⟩ := vx_frame hsame
  rw [hhp] at f1 f2
  have hWs : s.WarmedH U.vm := State.WarmedH.trans hW0 hW
  have hcl : s.vm.findClass cls = some ce.cls := by
    have h9 := hO.cls
    rw [hvm] at h9
    exact h9
  have hall : s.sameButNew ({ U with vm := s.vm } : State) locs mc ms := by
    subst hA
    obtain ⟨e1, e2⟩ := hsame
    rw [State.setFrames_setFrames] at e1
    have h2 : (T.setVm s.vm).sameButNew ({ U with vm := s.vm } : State) [] (0 + 1) (0 + 6) := ⟨e1, e2⟩
    have h3 := X.same.trans h2
    rw [List.append_nil] at h3
    exact h3.mono hc hs
  refine ⟨U, ?_, .threw T.heap.size, hrun, hend, Or.inr ⟨T.heap.size, rfl, cls, ce, locs, hx U hWs.alike f1 (fun q hq => f2 q hq (fun z hz => nomatch hz)), hce, hO.vm, hcl, hWs, hall, hf⟩⟩
  refine st1 _ ?_
  show Steps p.tables e below (T1.setTop { method := m, pc := pc + 3, locals := ls, stack := .ref T.heap.size :: rest, locked := none }) _
  jvm_step X₁.here [X₁.here.top, hexec, d3', Value.category]
  exact X₁.ldcString hexec (own := own) (text := text) (index := is) (a := sa) hown' hstr'.1 hstr'.2
    (g := { method := m, pc := pc + 4, locals := ls, stack := .ref T.heap.size :: .ref T.heap.size :: rest, locked := none }) rfl d4' _ hsteps
/-- 'throw new E("text")', the text by a wide index -/
theorem vx_throwSW {cc : ByteArray} {pc : Nat} (hexec : p.tables.exec = Jvm.exec) (hb : c.code = cc) (hl : l.stackTraces = false) {own cls text : String} {names : List String} {ik is ic mc ms sa : Nat} {A : Nat → Prop}
    (hown : s.vm.findClass own = some m.cls) (hcls : Bundle.fit cls = true) (hnames : ∀ n ∈ names, Bundle.fit n = true)
    (hk : (Cond.classLink own ik cls).before args s = true) (hini : (Cond.initialized cls).before args s = true) (hstr : vk_R own is text sa s) (hat : ∀ w ∈ vx_atS own ic cls names, w.before args s = true)
    (hgood : ∀ w ∈ Cond.classLink own ik cls :: Cond.initialized cls :: vx_atS own ic cls names, vx_ot w = true)
    (hU : vx_Zq Bundle.tN "UNASSIGNED_STACK" Bundle.steD A s s.heap) (hN : vx_Zq Bundle.tN "SUPPRESSED_SENTINEL" Bundle.listD A s s.heap) (hS : va_S A s.heap H locs) (hsize : ls.size = c.maxLocals)
    (d0 : decode cc pc = .ok (.new ik, 3)) (d3 : decode cc (pc + 3) = .ok (.dup, 1)) (d4 : decode cc (pc + 4) = .ok (.ldc_w is, 3)) (d7 : decode cc (pc + 7) = .ok (.invokespecial ic, 3)) (d10 : decode cc (pc + 10) = .ok (.athrow, 1))
    (hout : ∀ x ∈ c.exceptionTable.toList, covers x (pc + 10) = false)
    (hRframes : names.length + 3 < R.frames) (hRlocals : (rest.map fun v => v.category).sum + (13 * (names.length + 1) + 43) ≤ R.locals) (hRcells : cells + 1 ≤ R.cells) (hRslots : slots + 6 ≤ R.slots) (hlocks : meth.locks = false)
    (hx : ∀ t : State, s.vm.Alike t.vm → H.size ≤ t.heap.size → (∀ q : Nat, q < H.size → t.heap[q]? = H[q]?) → XC cls s t)
    (hf : ∀ z ∈ locs, free z.base) (hc : cells + 1 ≤ mc) (hs : slots + 6 ≤ ms) :
    W p l e R s m args below meth c H locs cells slots (vx_MQ below Qc XC args s mc ms free) (F0 m pc ls rest) := by
  intro T hT X
  have htr : e.platform.stackTraces = false := (show e.platform.stackTraces = l.stackTraces by rw [X.admits.platform]).trans hl
  have Y := vx_rebase X (R' := { frames := R.frames, locals := R.locals, cells := 1, slots := 6 }) (Nat.le_refl _) (Nat.le_refl _) hRcells hRslots
  obtain ⟨s', hA⟩ : ∃ z, z = (T.setVm s.vm).setFrames (.invoking m args :: below) := ⟨_, rfl⟩
  rw [← hA] at Y
  have hvm : s'.vm = s.vm := by rw [hA]; rfl
  have hhp : s'.heap = H := by rw [hA]; exact hT
  have hW0 : s.WarmedH s'.vm := by rw [hvm]; exact State.WarmedH.refl s
  have hat' : ∀ w ∈ vx_atS own ic cls names, w.before args s' = true := fun w hw => vx_ot_at hW0 hvm.symm (hgood w (List.mem_cons_of_mem _ (List.mem_cons_of_mem _ hw))) (hat w hw)
  have hk' : (Cond.classLink own ik cls).before args s' = true := vx_ot_at hW0 hvm.symm (hgood _ List.mem_cons_self) hk
  have hini' : (Cond.initialized cls).before args s' = true := vx_ot_at hW0 hvm.symm (hgood _ (List.mem_cons_of_mem _ List.mem_cons_self)) hini
  have hU' : vx_Zq Bundle.tN "UNASSIGNED_STACK" Bundle.steD A s' s'.heap := by rw [hhp]; exact vx_Zq.moved hW0.alike (hU.kept hS.2.1)
  have hN' : vx_Zq Bundle.tN "SUPPRESSED_SENTINEL" Bundle.listD A s' s'.heap := by rw [hhp]; exact vx_Zq.moved hW0.alike (hN.kept hS.2.1)
  have h : ∀ w ∈ Bundle.ownAtoms own ic cls names, w.before args s' = true := vx_own hat' (vx_isRefq hU'.1) (vx_isRefq hN'.1) hU'.2.word hN'.2.word
  have hown' : s'.vm.findClass own = some m.cls := by rw [hvm]; exact hown
  have hins : (Cond.instantiable cls 6).before args s' = true := h _ (by simp [Bundle.ownAtoms])
  obtain ⟨vm₁, cX, kX, hfX, hkX, -, -, X₁, st1⟩ := Y.newCold hexec (own := own) (C := cls) (index := ik) (n := 6) hown' hk' hins hini'
    (g := F0 m pc ls rest) rfl (by rw [hb]; exact d0) (Nat.le_refl _) (Nat.le_refl _)
  generalize hT1 : (T.setVm vm₁).pushCell { cls := cX, slots := kX.instanceTypes.map defaultValue, vm := .none } = T1 at X₁ st1
  have hcat : (Value.ref T.heap.size).category = 1 := rfl
  have hcellA : T1.heap[T.heap.size]? = some (freshCell cX kX) := by rw [← hT1]; exact State.heap_pushCell_size _ _
  have d3' : decode c.code (pc + 3) = .ok (.dup, 1) := by rw [hb]; exact d3
  have d4' : decode c.code (pc + 4) = .ok (.ldc_w is, 3) := by rw [hb]; exact d4
  have hstr' : vk_R own is text sa s' := vk_R.warm hW0 hstr
  obtain ⟨U, hsteps, hrun, hend, hW, hsame, ce, hce, hO⟩ := X₁.ctorThrowS hexec htr (own := own) (cls := cls) (names := names) (ic := ic) hown' hcls hnames h (fun x hx => nomatch hx) hfX hkX hcellA (by rw [hhp, hT]; exact Nat.le_refl _) (msg := .ref sa) rfl
    (g := { method := m, pc := pc + 7, locals := ls, stack := .ref sa :: .ref T.heap.size :: .ref T.heap.size :: rest, locked := none }) rfl hsize rfl rfl (rest := rest) rfl
    (by rw [hb]; exact d7) (by rw [hb]; exact d10) hout hRframes (by simp only [List.map_cons, List.sum_cons, hcat]; omega) hlocks
  obtain ⟨f1, f2⟩ := vx_frame hsame
  rw [hhp] at f1 f2
  have hWs : s.WarmedH U.vm := State.WarmedH.trans hW0 hW
  have hcl : s.vm.findClass cls = some ce.cls := by
    have h9 := hO.cls
    rw [hvm] at h9
    exact h9
  have hall : s.sameButNew ({ U with vm := s.vm } : State) locs mc ms := by
    subst hA
    obtain ⟨e1, e2⟩ := hsame
    rw [State.setFrames_setFrames] at e1
    have h2 : (T.setVm s.vm).sameButNew ({ U with vm := s.vm } : State) [] (0 + 1) (0 + 6) := ⟨e1, e2⟩
    have h3 := X.same.trans h2
    rw [List.append_nil] at h3
    exact h3.mono hc hs
  refine ⟨U, ?_, .threw T.heap.size, hrun, hend, Or.inr ⟨T.heap.size, rfl, cls, ce, locs, hx U hWs.alike f1 (fun q hq => f2 q hq (fun z hz => nomatch hz)), hce, hO.vm, hcl, hWs, hall, hf⟩⟩
  refine st1 _ ?_
  show Steps p.tables e below (T1.setTop { method := m, pc := pc + 3, locals := ls, stack := .ref T.heap.size :: rest, locked := none }) _
  jvm_step X₁.here [X₁.here.top, hexec, d3', Value.category]
  exact X₁.ldcStringW hexec (own := own) (text := text) (index := is) (a := sa) hown' hstr'.1 hstr'.2
    (g := { method := m, pc := pc + 4, locals := ls, stack := .ref T.heap.size :: .ref T.heap.size :: rest, locked := none }) rfl d4' _ hsteps
end Ends
section Bodies
variable {l : Launch}
theorem vx_ofW {y : MethodName} {ws ws' : List Cond} {rm : Room} {Pc : Array Value → State → Prop} {Qc : Array Value → State → Outcome → State → Prop} {XC : String → State → State → Prop} {mc ms : Nat} {free : Addr → Prop} {cc : ByteArray} {maxL : Nat} {ret : Option FieldType}
    (hy : plainName y.cls = true) (hw : ws = Cond.code y cc maxL ret :: ws')
    (body : ∀ p e s m args below meth c s₁, BodyLoose p l y (headSpec ws rm) cc maxL ret e s m args below meth c s₁ → c.maxLocals = maxL → (∀ x ∈ c.exceptionTable.toList, False) → Pc args s →
      W p l e (headSpec ws rm).room s m args below meth c s.heap [] 0 0 (vx_MQ below Qc XC args s mc ms free) (entryFrame m args maxL)) : vx_Met l y ws rm Pc Qc XC mc ms free := by
  refine MetFree.of_bodyS (code := cc) (maxLocals := maxL) (ret := ret) hy ?_ ?_
  · intro args s m h hn
    obtain ⟨meth, c, h1, h2, h3, h4, h5, h6, -, -⟩ := Cond.code_spec hn (atoms_spec (ws := ws) h _ (by rw [hw]; exact List.mem_cons_self))
    exact ⟨meth, c, h1, h2, h3, h4, h5, h6⟩
  · intro p e s m args below meth c s₁ B hml hP _
    have hh0 : s₁.heap = s.heap := by rw [B.state]; rfl
    have ht : ∀ x ∈ c.exceptionTable.toList, False := by
      obtain ⟨meth9, c9, h1, h2, -, -, -, -, h7, -⟩ := Cond.code_spec B.named (atoms_spec (ws := ws) B.pre _ (by rw [hw]; exact List.mem_cons_self))
      cases Option.some.inj (h1.symm.trans B.method)
      cases Option.some.inj (h2.symm.trans (Stand.of_body B).code)
      intro x hx
      rw [Array.isEmpty_iff.mp h7] at hx
      cases hx
    obtain ⟨t, a1, o, b1, b2, b3⟩ := body p e s m args below meth c s₁ B hml ht hP s₁ hh0 (Stand.of_body B)
    exact ⟨t, o, a1, b1, b2, b3⟩
/-- the table of a body with handlers -/
theorem vx_table {p : Program} {x y : MethodName} {S : Spec} {cc bytes : ByteArray} {maxL maxL' : Nat} {ret ret' : Option FieldType} {e : Env} {s s₁ : State} {m : MethodId} {args : Array Value} {below : List Frame} {meth : Method} {c : Code} {hh : List (Nat × Nat × Nat × Nat)}
    (B : BodyLoose p l y S cc maxL ret e s m args below meth c s₁) (h : (Cond.codeWith y bytes maxL' ret' hh).before args s = true) : c.exceptionTable.toList = tableOf hh := by
  obtain ⟨m9, meth9, c9, hn9, h1, h2, -, -, h6, -⟩ := Cond.codeWith_spec h
  cases Option.some.inj (hn9.symm.trans B.named)
  cases Option.some.inj (h1.symm.trans B.method)
  cases Option.some.inj (h2.symm.trans (Stand.of_body B).code)
  rw [← h6, table_eq]
end Bodies
end VXA
/-! ===== END ===== -/
/-! ===== BEGIN a static call of a method with an exception table ===== -/
section VXS
variable {p : Program} {l : Launch} {e : Env} {R : Room} {s : State} {m : MethodId} {args : Array Value} {below : List Frame} {meth : Method} {c : Code} {T : State} {H : Heap} {locs : List Loc} {cells slots : Nat}
abbrev vx_CSW (R : Room) (s : State) (args : Array Value) (own : String) (index : Nat) (y : MethodName) (bytes : ByteArray) (maxL : Nat) (ret : Option FieldType) (hh : List (Nat × Nat × Nat × Nat)) (ws : List Cond) (rm : Room) (mc ms n : Nat) : Prop :=
  (rm.cells = mc ∧ rm.slots = ms ∧ rm.frames + 1 ≤ R.frames ∧ 8 + (maxL + 11) + rm.locals ≤ R.locals ∧ (∀ w ∈ ws, ∀ (a' : Array Value) (U : State), s.WarmedH U.vm → w.before a' U = true) ∧ Cond.codeWith y bytes maxL ret hh ∈ ws) ∧
  (Cond.codeWith y bytes maxL ret hh).before args s = true ∧ (Cond.initialized y.cls).before args s = true ∧ (y.cls ≠ "java/lang/invoke/MethodHandle" ∧ y.cls ≠ "java/lang/invoke/VarHandle") ∧
  (∀ sig, parseMethodDescriptor y.desc = some sig → n = sig.parameters.length) ∧ (Cond.methodLink own index y).before args s = true ∧ (Cond.static y).before args s = true
theorem vx_cwSW {own : String} {index maxL mc ms : Nat} {y : MethodName} {bytes : ByteArray} {ret : Option FieldType} {hh : List (Nat × Nat × Nat × Nat)} {Ts ws ws' : List Cond} {rm : Room} (n : Nat) (ht : ∀ w ∈ Ts, w.before args s = true) (hT : GoodIn Ts (va_wsS own index y ws)) (hw : ws = Cond.codeWith y bytes maxL ret hh :: ws') (hrc : rm.cells = mc) (hrs : rm.slots = ms)
    (hd : y.cls ≠ "java/lang/invoke/MethodHandle" ∧ y.cls ≠ "java/lang/invoke/VarHandle" ∧ (parseMethodDescriptor y.desc).map (fun d => d.parameters.length) = some n) (hR : rm.frames + 1 ≤ R.frames ∧ 8 + (maxL + 11) + rm.locals ≤ R.locals) :
    vx_CSW R s args own index y bytes maxL ret hh ws rm mc ms n := by
  have ok : ∀ w ∈ va_wsS own index y ws, w.before args s = true := fun w h => ht w (hT w h).1
  have hG : GoodIn Ts ws := fun w h => hT w (by unfold va_wsS; exact List.mem_append_right _ h)
  have hc : Cond.codeWith y bytes maxL ret hh ∈ ws := by rw [hw]; exact List.mem_cons_self
  refine ⟨⟨hrc, hrs, hR.1, hR.2, pay_in ht hG, hc⟩, ht _ (hG _ hc).1, ok _ (by simp [va_wsS]), ⟨hd.1, hd.2.1⟩, fun sig h => ?_, ok _ (by simp [va_wsS]), ok _ (by simp [va_wsS])⟩
  have h2 := hd.2.2
  rw [h] at h2
  exact (Option.some.inj h2).symm
theorem vx_callSW (X : Stand p l e R s m args below meth c T locs cells slots) (hexec : p.tables.exec = Jvm.exec) {own : String} {index : Nat} {y : MethodName} {bytes : ByteArray} {maxL : Nat} {ret : Option FieldType} {hh : List (Nat × Nat × Nat × Nat)}
    (hown : s.vm.findClass own = some m.cls) (hlink : (Cond.methodLink own index y).before args s = true) (hstat : (Cond.static y).before args s = true) (hinit : (Cond.initialized y.cls).before args s = true)
    (hcode : (Cond.codeWith y bytes maxL ret hh).before args s = true) (hy : y.cls ≠ "java/lang/invoke/MethodHandle" ∧ y.cls ≠ "java/lang/invoke/VarHandle")
    {W9 : Nat} {Pre : Pt → Array Value → Prop} {Post : Pt → Array Value → Option Value → Pt → Prop} (hK : Back l R p e below s args y 3 W9 Pre Post)
    {g : JFrame} (hg : g.method = m) (hsize : g.locals.size = c.maxLocals) {argsL rest : List Value} (hlen : ∀ sig, parseMethodDescriptor y.desc = some sig → argsL.length = sig.parameters.length)
    (hstack : g.stack = argsL.reverse ++ rest) (hW : 2 * g.monitorRoom + (rest.map fun v => v.category).sum ≤ W9) (hdg : decode c.code g.pc = .ok (.invokestatic index, 3))
    (hpre : ∀ vm₁, s.WarmedH vm₁ → Pre ⟨T.setVm vm₁, locs, cells, slots⟩ argsL.toArray) :
    ∃ (v : Option Value) (vm₁ : Vm) (B : Pt), s.WarmedH vm₁ ∧ Stand p l e R s m args below meth c B.U B.locs B.cells B.slots ∧ Post ⟨T.setVm vm₁, locs, cells, slots⟩ argsL.toArray v B ∧
      ∀ target, Steps p.tables e below (B.U.setTop { g with pc := g.pc + 3, stack := v.toList ++ rest }) target → Steps p.tables e below (T.setTop g) target := by
  obtain ⟨mk, methM, cM, hnamed, hmethM, -, -, -, -, -, -, hsigM⟩ := Cond.codeWith_spec hcode
  have hstatic : methM.isStatic = true := Cond.static_spec hnamed hmethM hstat
  obtain ⟨kP, hkP, -⟩ := className_of_methodNamed hnamed
  have hinitP : kP.init = .initialized := Cond.initialized_spec (findClass_of_methodNamed hnamed) hkP hinit
  obtain ⟨vm₁, X₁, hstep₁⟩ := X.invokestatic hexec hown hlink hnamed hmethM hstatic hkP hinitP hy (g := g) hg (argsL := argsL) (rest := rest) (hlen _ hsigM) hstack hdg
  obtain ⟨v, B, X', hpost, hsteps⟩ := hK m meth c ⟨T.setVm vm₁, locs, cells, slots⟩ { g with stack := rest } (.invokestatic index) mk argsL.toArray X₁ hg hsize hdg hW (X₁.named hnamed) (hpre vm₁ X₁.warmed)
  exact ⟨v, vm₁, B, X₁.warmed, X', hpost, fun target h => hstep₁ _ fun acts => by rw [doInvoke_state]; exact hsteps.trans h⟩
theorem vx_runSW {y : MethodName} {bytes cc : ByteArray} {maxL nL mc ms n index : Nat} {ret : Option FieldType} {hh : List (Nat × Nat × Nat × Nat)} {ws : List Cond} {rm : Room} {Pc : Array Value → State → Prop} {Qc : Array Value → State → Outcome → State → Prop} {free : Addr → Prop} {Ts : List Cond} {own : String} {As rest : List Value} {g : JFrame}
    (S : CallFix p m c cc nL s args Ts own) (hM : Met l y ws rm Pc Qc mc ms free) (cw : vx_CSW R s args own index y bytes maxL ret hh ws rm mc ms n) (hp : PreS s H Pc As)
    (hg : g.method = m) (hn : As.length = n) (hsize : g.locals.size = nL) (hstack : g.stack = As.reverse ++ rest) (hW : 2 * g.monitorRoom + (rest.map fun v => v.category).sum ≤ 8) (hdg : decode cc g.pc = .ok (.invokestatic index, 3)) (hf : cells + mc ≤ R.cells ∧ slots + ms ≤ R.slots) :
    va_Run p l e R s m args below meth c H locs cells slots mc ms g rest (Qc As.toArray) (free) := by
  obtain ⟨⟨hrc, hrs, hfr, hlo, hws, hcw⟩, hcode, hini, hy, hlen, hl, hstt⟩ := cw
  have hK : Back l R p e below s args y 3 8 (PreOf R mc ms Pc) (PostOf Qc mc ms free) := va_backW (hh := hh) (bytes := bytes) (maxL := maxL) (ret := ret) hM hp.1 hrc hrs hfr hlo hws hcw (fun a' U hW => word_at hW (Or.inl (by first | rfl | simp [Cond.onTables, Cond.keeps, Cond.steady])) hini)
  obtain ⟨hx, hb, hml, ho, -⟩ := S
  intro T hT X
  obtain ⟨v, vm₁, ⟨U', l2, c2, s2⟩, hW₁, X', ⟨g', mk, t, L, e1, e2, hq, h1, hL, h2, h3⟩, st⟩ := vx_callSW X hx (hh := hh) (bytes := bytes) (maxL := maxL) (ret := ret) ho hl hstt hini hcode hy hK hg (hsize.trans hml.symm) (argsL := As) (rest := rest) (fun sig h => hn.trans (hlen sig h)) hstack hW (by rw [hb]; exact hdg)
    (fun vm₁ hW₁ => ⟨hf.1, hf.2, hp.2 (T.setVm vm₁) hT hW₁⟩)
  dsimp only [Pt.U, Pt.locs, Pt.cells, Pt.slots] at X' e1 e2 h1 h2 h3 st
  subst h1; subst h2; subst h3
  exact ⟨v, (T.setVm vm₁).calling g' mk As.toArray, t, U', L, hT, X', hL, e1, e2, hq, st⟩
/-- not caught here, past rows that name other classes: it goes on to the caller -/
theorem vx_outP {p : Program} {l : Launch} {e : Env} {R : Room} {s : State} {m : MethodId} {args : Array Value} {below : List Frame} {meth : Method} {c : Code} {H : Heap} {locs : List Loc} {cells slots : Nat} {free : Addr → Prop} {ls : Array Slot} {rest : List Value} {Qc : Array Value → State → Outcome → State → Prop} {XC : String → State → State → Prop}
    {pc : Nat} {own E : String} {ce : Cell} {q : Addr} {mc ms : Nat} (hown : s.vm.findClass own = some m.cls) (hlocks : meth.locks = false)
    (hpass : ∀ z ∈ c.exceptionTable.toList, covers z pc = false ∨ (z.catchType ≠ 0 ∧ ∃ nm : String, (Cond.classLink own z.catchType nm).before args s = true ∧ va_Nc E nm s)) (hcell : H[q]? = some ce) (hv : ce.vm = .none) (hcl : s.vm.findClass E = some ce.cls)
    (hx : ∀ t : State, t.heap = H → s.vm.Alike t.vm → XC E s t) (hf : ∀ z ∈ locs, free z.base) (hc : cells ≤ mc) (hs : slots ≤ ms) :
    vx_W p l e R s m args below meth c H locs cells slots (vx_MQ below Qc XC args s mc ms free) (F0 m pc ls rest) q := by
  intro T hT X
  have hpl : e.platform.magicAccessors = ({} : Platform).magicAccessors := by rw [X.admits.platform]
  obtain ⟨vm', hW', X', st⟩ := X.outThrough hlocks q (g := F0 m pc ls rest) rfl rfl rfl (cell := ce) (by rw [hT]; exact hcell) (by rw [hv]; rfl)
    (by obtain ⟨k9, h9, -⟩ := Vm.findClass_spec hcl; exact ⟨k9, h9⟩) (fun z hz => by
      rcases hpass z hz with h | ⟨hz0, nm, hl1, hn1⟩
      · exact Or.inl h
      · obtain ⟨c6, hc6, hcl6⟩ := Cond.classLink_spec hown hl1 e.platform hpl
        obtain ⟨a8, b8, h1, h2, h3⟩ := hn1
        cases Option.some.inj (h1.symm.trans hcl)
        cases Option.some.inj (h2.symm.trans hc6)
        exact Or.inr ⟨hz0, _, hcl6, h3⟩)
  obtain ⟨g₀, hfr⟩ := X'.frames_eq
  have hcell9 : ((T.setVm vm').setFrames (.throwing q :: below)).heap[q]? = some ce := by
    show T.heap[q]? = some ce
    rw [hT]; exact hcell
  have hend : Ended ((T.setVm vm').setFrames (.throwing q :: below)) below (.threw q) := State.frames_setFrames _ (State.cur_lt_of_frames hfr)
  refine ⟨(T.setVm vm').setFrames (.throwing q :: below), ?_, .threw q, X'.here.running, hend, Or.inr ⟨q, rfl, E, ce, locs, hx _ hT (X'.ends _).1.alike, hcell9, hv, hcl, (X'.ends _).1, (X'.ends _).2.mono hc hs, hf⟩⟩
  rw [X.pushThrowing_eq]
  exact st
/-- a thing of a world lies in the heap -/
theorem vx_lt {D : va_G} {cl : List vw_C} {ws : va_W} {H1 : Heap} (h : va_P D cl ws H1) {k : Nat} {q : Nat × va_E} (hk : ws[k]? = some q) : q.1 < H1.size := (h k q hk).lt
end VXS
/-! ===== END ===== -/
/-! ===== BEGIN methods with a table of their own: called by a name, returning or throwing ===== -/
section VXH
/-! vx_backW, vx_callVX, vx_callSX, vx_callVW, vx_runVW, vx_runVX, vx_runSX, vx_ofWH follow the same proofs as their sisters above (Free/Laws.lean, Shelf42/LK1.lean); vx_outP calls Shelf42/NT130.lean (outThrough). -/
section
variable {l : Launch} {R : Room} {p : Program} {e : Env} {below : List Frame} {s : State} {sargs : Array Value} {y : MethodName} {len W9 : Nat}
theorem vx_backW {ws : List Cond} {rm : Room} {Pc : Array Value → State → Prop} {Qc : Array Value → State → Outcome → State → Prop} {XC : String → State → State → Prop} {mc ms : Nat} {free : Addr → Prop} {bytes : ByteArray} {maxL : Nat} {ret : Option FieldType} {hh : List (Nat × Nat × Nat × Nat)}
    (hM : vx_Met l y ws rm Pc Qc XC mc ms free) (hblind : FrameBlind Pc) (hrc : rm.cells = mc) (hrs : rm.slots = ms)
    (hframes : rm.frames + 1 ≤ R.frames) (hlocals : W9 + (maxL + 11) + rm.locals ≤ R.locals)
    (hws : ∀ w ∈ ws, ∀ a' U, s.WarmedH U.vm → w.before a' U = true) (hcode : Cond.codeWith y bytes maxL ret hh ∈ ws) (hinit : ∀ a' U, s.WarmedH U.vm → (Cond.initialized y.cls).before a' U = true) :
    vx_Back l R p e below s sargs y len W9 (PreOf R mc ms Pc) (PostOf Qc mc ms free) (vx_Post XC mc ms free) := by
  intro m meth c A g ig mk a X hg hsize hdg hW hn hp
  have h1 : (headSpec ws rm).pre.before a A.U = true := atoms_intro fun w hw => hws w hw _ _ X.warmed
  have h2 : (Cond.codeWith y bytes maxL ret hh).before a A.U = true := hws _ hcode _ _ X.warmed
  have h3 : (Cond.initialized y.cls).before a A.U = true := hinit _ _ X.warmed
  have h4 : A.cells + (headSpec ws rm).room.cells ≤ R.cells := by rw [show (headSpec ws rm).room.cells = mc from hrc]; exact hp.1
  have h5 : A.slots + (headSpec ws rm).room.slots ≤ R.slots := by rw [show (headSpec ws rm).room.slots = ms from hrs]; exact hp.2.1
  have hPc : Pc a (A.U.calling g mk a) := hblind _ _ _ _ hp.2.2
  obtain ⟨U, Ls, c0, s0⟩ := A
  dsimp only [Pt.U, Pt.locs, Pt.cells, Pt.slots] at h1 h2 h3 h4 h5 X hn hPc ⊢
  obtain ⟨m9, methY, cY, hn9, hmY, hcY, -, hlY, -⟩ := Cond.codeWith_spec h2
  cases Option.some.inj (hn9.symm.trans hn)
  obtain ⟨kY, hkY, -⟩ := className_of_methodNamed hn
  have hinitY : kY.init = .initialized := Cond.initialized_spec (findClass_of_methodNamed hn) hkY h3
  have h : At U g.method c below := by rw [hg]; exact X.here
  have hlocals9 : W9 + (maxL + 11) + (headSpec ws rm).room.locals ≤ R.locals := hlocals
  have happ : (headSpec ws rm).appliesLoose y e.platform (U.calling g mk a) = true :=
    Spec.appliesLoose_calling (g := g) h hdg hn hkY hinitY
      (X.room_calling (g := g) (R' := (headSpec ws rm).room) hsize hmY hcY hframes (by rw [hlY]; omega) h4 h5) h1
  obtain ⟨mid, hmid⟩ := h.above
  have hfr : (U.setTop g).frames = (.java g :: mid) ++ below := by rw [State.frames_setTop' g h.top, hmid]; rfl
  obtain ⟨o, s₂, hsteps, -, hend, hq⟩ := Steps.callFree hM p X.admits X.cas X.clock (acts := []) hfr happ hPc trivial
  have hq' : vx_Q Qc XC mc ms free a (U.calling g mk a) o s₂ := hq
  rw [State.frames_setTop' g h.top] at hend
  obtain ⟨g₀, hg0⟩ := Option.isSome_iff_exists.mp h.top
  obtain ⟨r, hr⟩ := State.topJava?_eq_some.mp hg0
  have hr' : (({ U with heap := s₂.heap, slotsUsed := s₂.slotsUsed } : State).setVm s₂.vm).frames = .java g₀ :: r := hr
  rcases hq' with ⟨hqc, L, hfe, hL⟩ | ⟨q, rfl, E, ce, L, hx, hce, hcv, hcl, hW₂, hsm, hL⟩
  · obtain ⟨⟨v, rfl⟩, hW₂, e2, q2, q3, q4, q5, q6⟩ := id hfe
    have e3 : s₂ = ({ (U.calling g mk a).setFrames s₂.frames with heap := s₂.heap, slotsUsed := s₂.slotsUsed } : State).setVm s₂.vm := by
      have : s₂ = ({ s₂ with vm := (U.calling g mk a).vm } : State).setVm s₂.vm := rfl
      rw [e2] at this
      exact this
    obtain ⟨c₂, i₂, len₂, hc₂, hd₂, hf₂⟩ := hend
    have hW' : U.WarmedH s₂.vm := hW₂
    have hcc : c₂ = c := by
      have h1 : s₂.code? g.method = U.code? g.method := by
        rw [State.code?_eq, State.code?_eq, hW'.alike.method?]
      exact Option.some.inj (hc₂.symm.trans (h1.trans h.code))
    subst hcc
    have hlen : len₂ = len := by rw [hdg] at hd₂; cases hd₂; rfl
    subst hlen
    have hs₂ : s₂ = (({ U with heap := s₂.heap, slotsUsed := s₂.slotsUsed } : State).setVm s₂.vm).setTop { g with pc := g.pc + len₂, stack := v.toList ++ g.stack } := by
      refine e3.trans ?_
      rw [hf₂, State.calling_eq h.top, State.setFrames_setFrames, State.setTop_of_frames _ hr', hr]
      rfl
    have hsame : U.sameButNew ({ U with heap := s₂.heap, slotsUsed := s₂.slotsUsed } : State) L mc ms := by
      refine ⟨?_, q2, q3, q4, q5, q6⟩
      obtain ⟨t, ht, -⟩ := State.frames_cons hr
      show ({ U with heap := s₂.heap, slotsUsed := s₂.slotsUsed } : State) = { U.setFrames U.frames with heap := s₂.heap, slotsUsed := s₂.slotsUsed }
      rw [State.setFrames_self ht]
    subst hg
    refine Or.inl ⟨v, ⟨(({ U with heap := s₂.heap, slotsUsed := s₂.slotsUsed } : State).setVm s₂.vm), Ls ++ L, c0 + mc, s0 + ms⟩,
      ⟨X.admits, X.cas, X.clock, X.frames, X.room, X.hears, X.method, X.code, (X.here.setHeapUsed s₂.heap s₂.slotsUsed).setVm hW'.alike, X.tail, State.WarmedH.trans X.warmed hW', X.limits, X.bytes, X.same.trans (hsame.setVm s.vm)⟩,
      ⟨g, mk, s₂, L, rfl, rfl, hqc, rfl, hL, rfl, rfl⟩, ?_⟩
    show Steps p.tables e below _ ((({ U with heap := s₂.heap, slotsUsed := s₂.slotsUsed } : State).setVm s₂.vm).setTop { g with pc := g.pc + len₂, stack := v.toList ++ g.stack })
    rw [← hs₂]
    exact hsteps
  · obtain ⟨e2, q2, q3, q4, q5, q6⟩ := id hsm
    have e3 : s₂ = ({ (U.calling g mk a).setFrames s₂.frames with heap := s₂.heap, slotsUsed := s₂.slotsUsed } : State).setVm s₂.vm := by
      have : s₂ = ({ s₂ with vm := (U.calling g mk a).vm } : State).setVm s₂.vm := rfl
      rw [e2] at this
      exact this
    have hf₂ : s₂.frames = .throwing q :: .java g :: U.frames.tail := hend
    have hW' : U.WarmedH s₂.vm := hW₂
    have hs₂ : s₂ = ((({ U with heap := s₂.heap, slotsUsed := s₂.slotsUsed } : State).setVm s₂.vm).setTop g).pushFrame (.throwing q) := by
      refine e3.trans ?_
      rw [hf₂, State.calling_eq h.top, State.setFrames_setFrames, State.pushFrame, State.frames_setTop _ hr', State.setTop_of_frames _ hr', State.setFrames_setFrames, hr]
      rfl
    have hsame : U.sameButNew ({ U with heap := s₂.heap, slotsUsed := s₂.slotsUsed } : State) L mc ms := by
      refine ⟨?_, q2, q3, q4, q5, q6⟩
      obtain ⟨t, ht, -⟩ := State.frames_cons hr
      show ({ U with heap := s₂.heap, slotsUsed := s₂.slotsUsed } : State) = { U.setFrames U.frames with heap := s₂.heap, slotsUsed := s₂.slotsUsed }
      rw [State.setFrames_self ht]
    subst hg
    refine Or.inr ⟨q, ⟨(({ U with heap := s₂.heap, slotsUsed := s₂.slotsUsed } : State).setVm s₂.vm), Ls ++ L, c0 + mc, s0 + ms⟩,
      ⟨X.admits, X.cas, X.clock, X.frames, X.room, X.hears, X.method, X.code, (X.here.setHeapUsed s₂.heap s₂.slotsUsed).setVm hW'.alike, X.tail, State.WarmedH.trans X.warmed hW', X.limits, X.bytes, X.same.trans (hsame.setVm s.vm)⟩,
      ⟨g, mk, s₂, L, E, ce, rfl, rfl, hx, hce, hcv, hcl, rfl, hL, rfl, rfl⟩, ?_⟩
    show Steps p.tables e below _ (((({ U with heap := s₂.heap, slotsUsed := s₂.slotsUsed } : State).setVm s₂.vm).setTop g).pushFrame (.throwing q))
    rw [← hs₂]
    exact hsteps
end
variable {p : Program} {l : Launch} {e : Env} {R : Room} {s : State} {m : MethodId} {args : Array Value} {below : List Frame} {meth : Method} {c : Code} {T : State} {H : Heap} {locs : List Loc} {cells slots : Nat}
theorem vx_callVX (X : Stand p l e R s m args below meth c T locs cells slots) (hexec : p.tables.exec = Jvm.exec) {own C : String} {index : Nat} {y : MethodName} {bytes : ByteArray} {maxL : Nat} {ret : Option FieldType} {hh : List (Nat × Nat × Nat × Nat)}
    (hown : s.vm.findClass own = some m.cls) (hlink : (Cond.methodLink own index y).before args s = true) (hinst : (Cond.instanceMethod y).before args s = true) (hsel : (Cond.selects C y y).before args s = true)
    (hcode : (Cond.codeWith y bytes maxL ret hh).before args s = true) (hy : y.cls ≠ "java/lang/invoke/MethodHandle" ∧ y.cls ≠ "java/lang/invoke/VarHandle")
    {W9 : Nat} {Pre : Pt → Array Value → Prop} {Post : Pt → Array Value → Option Value → Pt → Prop} {PostX : Pt → Array Value → Addr → Pt → Prop} (hK : vx_Back l R p e below s args y 3 W9 Pre Post PostX)
    {b : Addr} {cellB : Cell} (hcell : T.heap[b]? = some cellB) (hobj : cellB.vm.isStatics = false) (hcls : s.vm.findClass C = some cellB.cls)
    {g : JFrame} (hg : g.method = m) (hsize : g.locals.size = c.maxLocals) {argsL rest : List Value} (hlen : ∀ sig, parseMethodDescriptor y.desc = some sig → argsL.length = sig.parameters.length)
    (hstack : g.stack = argsL.reverse ++ .ref b :: rest) (hW : 2 * g.monitorRoom + (rest.map fun v => v.category).sum ≤ W9) (hdg : decode c.code g.pc = .ok (.invokevirtual index, 3))
    (hpre : ∀ vm₁, s.WarmedH vm₁ → Pre ⟨T.setVm vm₁, locs, cells, slots⟩ (Value.ref b :: argsL).toArray) :
    (∃ (v : Option Value) (vm₁ : Vm) (B : Pt), s.WarmedH vm₁ ∧ Stand p l e R s m args below meth c B.U B.locs B.cells B.slots ∧ Post ⟨T.setVm vm₁, locs, cells, slots⟩ (Value.ref b :: argsL).toArray v B ∧
      ∀ target, Steps p.tables e below (B.U.setTop { g with pc := g.pc + 3, stack := v.toList ++ rest }) target → Steps p.tables e below (T.setTop g) target) ∨
    (∃ (q : Addr) (vm₁ : Vm) (B : Pt), s.WarmedH vm₁ ∧ Stand p l e R s m args below meth c B.U B.locs B.cells B.slots ∧ PostX ⟨T.setVm vm₁, locs, cells, slots⟩ (Value.ref b :: argsL).toArray q B ∧
      Steps p.tables e below (T.setTop g) ((B.U.setTop { g with stack := rest }).pushFrame (.throwing q))) := by
  obtain ⟨mk, methM, hnamed, hmethM, hstM, habM⟩ := Cond.instanceMethod_spec hinst
  obtain ⟨m8, methM', cM, hn8, hmethM', -, -, -, -, -, -, hsigM⟩ := Cond.codeWith_spec hcode
  cases Option.some.inj (hn8.symm.trans hnamed)
  cases hmethM.symm.trans hmethM'
  obtain ⟨c2, r2, m2, q1, q2, q3, q4, kP, hkP, hkPi⟩ := Cond.selects_spec hsel
  cases hcls.symm.trans q1
  cases (State.methodFound?_of_named hnamed hy).symm.trans q2
  cases hnamed.symm.trans q3
  have hselP : selectMethod e.platform s.vm cellB.cls mk = .method mk := by rw [Launch.admits_selectMethod X.admits]; exact q4
  obtain ⟨vm₁, X₁, hstep₁⟩ := X.invokevirtual hexec hown hlink hnamed hmethM hstM hkP hkPi hy (a := b) (cell := cellB) hcell
    (fun z h => by rw [h] at hobj; cases hobj) hselP hmethM habM hkP hkPi (g := g) hg (argsL := argsL) (rest := rest) (hlen _ hsigM) hstack hdg
  rcases hK m meth c ⟨T.setVm vm₁, locs, cells, slots⟩ { g with stack := rest } (.invokevirtual index) mk (Value.ref b :: argsL).toArray X₁ hg hsize hdg hW (X₁.named hnamed) (hpre vm₁ X₁.warmed) with ⟨v, B, X', hpost, hsteps⟩ | ⟨q, B, X', hpost, hsteps⟩
  · exact Or.inl ⟨v, vm₁, B, X₁.warmed, X', hpost, fun target h => hstep₁ _ fun acts => by rw [doInvoke_state]; exact hsteps.trans h⟩
  · exact Or.inr ⟨q, vm₁, B, X₁.warmed, X', hpost, hstep₁ _ fun acts => by rw [doInvoke_state]; exact hsteps⟩
theorem vx_callSX (X : Stand p l e R s m args below meth c T locs cells slots) (hexec : p.tables.exec = Jvm.exec) {own : String} {index : Nat} {y : MethodName} {bytes : ByteArray} {maxL : Nat} {ret : Option FieldType} {hh : List (Nat × Nat × Nat × Nat)}
    (hown : s.vm.findClass own = some m.cls) (hlink : (Cond.methodLink own index y).before args s = true) (hstat : (Cond.static y).before args s = true) (hinit : (Cond.initialized y.cls).before args s = true)
    (hcode : (Cond.codeWith y bytes maxL ret hh).before args s = true) (hy : y.cls ≠ "java/lang/invoke/MethodHandle" ∧ y.cls ≠ "java/lang/invoke/VarHandle")
    {W9 : Nat} {Pre : Pt → Array Value → Prop} {Post : Pt → Array Value → Option Value → Pt → Prop} {PostX : Pt → Array Value → Addr → Pt → Prop} (hK : vx_Back l R p e below s args y 3 W9 Pre Post PostX)
    {g : JFrame} (hg : g.method = m) (hsize : g.locals.size = c.maxLocals) {argsL rest : List Value} (hlen : ∀ sig, parseMethodDescriptor y.desc = some sig → argsL.length = sig.parameters.length)
    (hstack : g.stack = argsL.reverse ++ rest) (hW : 2 * g.monitorRoom + (rest.map fun v => v.category).sum ≤ W9) (hdg : decode c.code g.pc = .ok (.invokestatic index, 3))
    (hpre : ∀ vm₁, s.WarmedH vm₁ → Pre ⟨T.setVm vm₁, locs, cells, slots⟩ argsL.toArray) :
    (∃ (v : Option Value) (vm₁ : Vm) (B : Pt), s.WarmedH vm₁ ∧ Stand p l e R s m args below meth c B.U B.locs B.cells B.slots ∧ Post ⟨T.setVm vm₁, locs, cells, slots⟩ argsL.toArray v B ∧
      ∀ target, Steps p.tables e below (B.U.setTop { g with pc := g.pc + 3, stack := v.toList ++ rest }) target → Steps p.tables e below (T.setTop g) target) ∨
    (∃ (q : Addr) (vm₁ : Vm) (B : Pt), s.WarmedH vm₁ ∧ Stand p l e R s m args below meth c B.U B.locs B.cells B.slots ∧ PostX ⟨T.setVm vm₁, locs, cells, slots⟩ argsL.toArray q B ∧
      Steps p.tables e below (T.setTop g) ((B.U.setTop { g with stack := rest }).pushFrame (.throwing q))) := by
  obtain ⟨mk, methM, cM, hnamed, hmethM, -, -, -, -, -, -, hsigM⟩ := Cond.codeWith_spec hcode
  have hstatic : methM.isStatic = true := Cond.static_spec hnamed hmethM hstat
  obtain ⟨kP, hkP, -⟩ := className_of_methodNamed hnamed
  have hinitP : kP.init = .initialized := Cond.initialized_spec (findClass_of_methodNamed hnamed) hkP hinit
  obtain ⟨vm₁, X₁, hstep₁⟩ := X.invokestatic hexec hown hlink hnamed hmethM hstatic hkP hinitP hy (g := g) hg (argsL := argsL) (rest := rest) (hlen _ hsigM) hstack hdg
  rcases hK m meth c ⟨T.setVm vm₁, locs, cells, slots⟩ { g with stack := rest } (.invokestatic index) mk argsL.toArray X₁ hg hsize hdg hW (X₁.named hnamed) (hpre vm₁ X₁.warmed) with ⟨v, B, X', hpost, hsteps⟩ | ⟨q, B, X', hpost, hsteps⟩
  · exact Or.inl ⟨v, vm₁, B, X₁.warmed, X', hpost, fun target h => hstep₁ _ fun acts => by rw [doInvoke_state]; exact hsteps.trans h⟩
  · exact Or.inr ⟨q, vm₁, B, X₁.warmed, X', hpost, hstep₁ _ fun acts => by rw [doInvoke_state]; exact hsteps⟩
theorem vx_callVW (X : Stand p l e R s m args below meth c T locs cells slots) (hexec : p.tables.exec = Jvm.exec) {own C : String} {index : Nat} {y : MethodName} {bytes : ByteArray} {maxL : Nat} {ret : Option FieldType} {hh : List (Nat × Nat × Nat × Nat)}
    (hown : s.vm.findClass own = some m.cls) (hlink : (Cond.methodLink own index y).before args s = true) (hinst : (Cond.instanceMethod y).before args s = true) (hsel : (Cond.selects C y y).before args s = true)
    (hcode : (Cond.codeWith y bytes maxL ret hh).before args s = true) (hy : y.cls ≠ "java/lang/invoke/MethodHandle" ∧ y.cls ≠ "java/lang/invoke/VarHandle")
    {W9 : Nat} {Pre : Pt → Array Value → Prop} {Post : Pt → Array Value → Option Value → Pt → Prop} (hK : Back l R p e below s args y 3 W9 Pre Post)
    {b : Addr} {cellB : Cell} (hcell : T.heap[b]? = some cellB) (hobj : cellB.vm.isStatics = false) (hcls : s.vm.findClass C = some cellB.cls)
    {g : JFrame} (hg : g.method = m) (hsize : g.locals.size = c.maxLocals) {argsL rest : List Value} (hlen : ∀ sig, parseMethodDescriptor y.desc = some sig → argsL.length = sig.parameters.length)
    (hstack : g.stack = argsL.reverse ++ .ref b :: rest) (hW : 2 * g.monitorRoom + (rest.map fun v => v.category).sum ≤ W9) (hdg : decode c.code g.pc = .ok (.invokevirtual index, 3))
    (hpre : ∀ vm₁, s.WarmedH vm₁ → Pre ⟨T.setVm vm₁, locs, cells, slots⟩ (Value.ref b :: argsL).toArray) :
    ∃ (v : Option Value) (vm₁ : Vm) (B : Pt), s.WarmedH vm₁ ∧ Stand p l e R s m args below meth c B.U B.locs B.cells B.slots ∧ Post ⟨T.setVm vm₁, locs, cells, slots⟩ (Value.ref b :: argsL).toArray v B ∧
      ∀ target, Steps p.tables e below (B.U.setTop { g with pc := g.pc + 3, stack := v.toList ++ rest }) target → Steps p.tables e below (T.setTop g) target := by
  obtain ⟨mk, methM, hnamed, hmethM, hstM, habM⟩ := Cond.instanceMethod_spec hinst
  obtain ⟨m8, methM', cM, hn8, hmethM', -, -, -, -, -, -, hsigM⟩ := Cond.codeWith_spec hcode
  cases Option.some.inj (hn8.symm.trans hnamed)
  cases hmethM.symm.trans hmethM'
  obtain ⟨c2, r2, m2, q1, q2, q3, q4, kP, hkP, hkPi⟩ := Cond.selects_spec hsel
  cases hcls.symm.trans q1
  cases (State.methodFound?_of_named hnamed hy).symm.trans q2
  cases hnamed.symm.trans q3
  have hselP : selectMethod e.platform s.vm cellB.cls mk = .method mk := by rw [Launch.admits_selectMethod X.admits]; exact q4
  obtain ⟨vm₁, X₁, hstep₁⟩ := X.invokevirtual hexec hown hlink hnamed hmethM hstM hkP hkPi hy (a := b) (cell := cellB) hcell
    (fun z h => by rw [h] at hobj; cases hobj) hselP hmethM habM hkP hkPi (g := g) hg (argsL := argsL) (rest := rest) (hlen _ hsigM) hstack hdg
  obtain ⟨v, B, X', hpost, hsteps⟩ := hK m meth c ⟨T.setVm vm₁, locs, cells, slots⟩ { g with stack := rest } (.invokevirtual index) mk (Value.ref b :: argsL).toArray X₁ hg hsize hdg hW (X₁.named hnamed) (hpre vm₁ X₁.warmed)
  exact ⟨v, vm₁, B, X₁.warmed, X', hpost, fun target h => hstep₁ _ fun acts => by rw [doInvoke_state]; exact hsteps.trans h⟩
abbrev vx_CVW (R : Room) (s : State) (args : Array Value) (own C : String) (index : Nat) (y : MethodName) (bytes : ByteArray) (maxL : Nat) (ret : Option FieldType) (hh : List (Nat × Nat × Nat × Nat)) (ws : List Cond) (rm : Room) (mc ms n : Nat) : Prop :=
  (rm.cells = mc ∧ rm.slots = ms ∧ rm.frames + 1 ≤ R.frames ∧ 8 + (maxL + 11) + rm.locals ≤ R.locals ∧ (∀ w ∈ ws, ∀ (a' : Array Value) (U : State), s.WarmedH U.vm → w.before a' U = true) ∧ Cond.codeWith y bytes maxL ret hh ∈ ws) ∧
  (Cond.codeWith y bytes maxL ret hh).before args s = true ∧ (Cond.initialized y.cls).before args s = true ∧ (y.cls ≠ "java/lang/invoke/MethodHandle" ∧ y.cls ≠ "java/lang/invoke/VarHandle") ∧
  (∀ sig, parseMethodDescriptor y.desc = some sig → n = sig.parameters.length) ∧ (Cond.methodLink own index y).before args s = true ∧ (Cond.instanceMethod y).before args s = true ∧ (Cond.selects C y y).before args s = true
theorem vx_cwVW {own C : String} {index maxL mc ms : Nat} {y : MethodName} {bytes : ByteArray} {ret : Option FieldType} {hh : List (Nat × Nat × Nat × Nat)} {Ts ws ws' : List Cond} {rm : Room} (n : Nat) (ht : ∀ w ∈ Ts, w.before args s = true) (hT : GoodIn Ts (wsV own index C y ws)) (hw : ws = Cond.codeWith y bytes maxL ret hh :: ws') (hrc : rm.cells = mc) (hrs : rm.slots = ms)
    (hd : y.cls = C ∧ y.cls ≠ "java/lang/invoke/MethodHandle" ∧ y.cls ≠ "java/lang/invoke/VarHandle" ∧ (parseMethodDescriptor y.desc).map (fun d => d.parameters.length) = some n) (hR : rm.frames + 1 ≤ R.frames ∧ 8 + (maxL + 11) + rm.locals ≤ R.locals) :
    vx_CVW R s args own C index y bytes maxL ret hh ws rm mc ms n := by
  obtain ⟨hC, hd⟩ := hd
  subst hC
  have ok : ∀ w ∈ wsV own index y.cls y ws, w.before args s = true := fun w h => ht w (hT w h).1
  have hG : GoodIn Ts ws := fun w h => hT w (by unfold wsV; exact List.mem_append_right _ h)
  have hc : Cond.codeWith y bytes maxL ret hh ∈ ws := by rw [hw]; exact List.mem_cons_self
  refine ⟨⟨hrc, hrs, hR.1, hR.2, pay_in ht hG, hc⟩, ht _ (hG _ hc).1, ok _ (by simp [wsV]), ⟨hd.1, hd.2.1⟩, fun sig h => ?_, ok _ (by simp [wsV]), ok _ (by simp [wsV]), ok _ (by simp [wsV])⟩
  have h2 := hd.2.2
  rw [h] at h2
  exact (Option.some.inj h2).symm
theorem vx_runVW {y : MethodName} {bytes cc : ByteArray} {maxL nL mc ms n index : Nat} {ret : Option FieldType} {hh : List (Nat × Nat × Nat × Nat)} {ws : List Cond} {rm : Room} {Pc : Array Value → State → Prop} {Qc : Array Value → State → Outcome → State → Prop} {free : Addr → Prop} {Ts : List Cond} {own C : String} {b : Addr} {As rest : List Value} {g : JFrame}
    (S : CallFix p m c cc nL s args Ts own) (hM : Met l y ws rm Pc Qc mc ms free) (cw : vx_CVW R s args own C index y bytes maxL ret hh ws rm mc ms n) (hp : PreV s H C b Pc As)
    (hg : g.method = m) (hn : As.length = n) (hsize : g.locals.size = nL) (hstack : g.stack = As.reverse ++ .ref b :: rest) (hW : 2 * g.monitorRoom + (rest.map fun v => v.category).sum ≤ 8) (hdg : decode cc g.pc = .ok (.invokevirtual index, 3)) (hf : cells + mc ≤ R.cells ∧ slots + ms ≤ R.slots) :
    va_Run p l e R s m args below meth c H locs cells slots mc ms g rest (Qc (Value.ref b :: As).toArray) free := by
  obtain ⟨⟨hrc, hrs, hfr, hlo, hws, hcw⟩, hcode, hini, hy, hlen, hl, hin, hse⟩ := cw
  have hK : Back l R p e below s args y 3 8 (PreOf R mc ms Pc) (PostOf Qc mc ms free) := va_backW (hh := hh) (bytes := bytes) (maxL := maxL) (ret := ret) hM hp.1 hrc hrs hfr hlo hws hcw (fun a' U hW => word_at hW (Or.inl (by first | rfl | simp [Cond.onTables, Cond.keeps, Cond.steady])) hini)
  obtain ⟨hx, hb, hml, ho, -⟩ := S
  obtain ⟨-, ⟨cellB, hcB, hoB, hclB⟩, hPc⟩ := hp
  intro T hT X
  obtain ⟨v, vm₁, ⟨U', l2, c2, s2⟩, hW₁, X', ⟨g', mk, t, L, e1, e2, hq, h1, hL, h2, h3⟩, st⟩ := vx_callVW X hx (C := C) (hh := hh) (bytes := bytes) (maxL := maxL) (ret := ret) ho hl hin hse hcode hy hK (by rw [hT]; exact hcB) hoB hclB hg (hsize.trans hml.symm) (argsL := As) (rest := rest) (fun sig h => hn.trans (hlen sig h)) hstack hW (by rw [hb]; exact hdg)
    (fun vm₁ hW₁ => ⟨hf.1, hf.2, hPc (T.setVm vm₁) hT hW₁⟩)
  dsimp only [Pt.U, Pt.locs, Pt.cells, Pt.slots] at X' e1 e2 h1 h2 h3 st
  subst h1; subst h2; subst h3
  exact ⟨v, (T.setVm vm₁).calling g' mk (Value.ref b :: As).toArray, t, U', L, hT, X', hL, e1, e2, hq, st⟩
section
variable {y : MethodName} {bytes cc : ByteArray} {maxL nL mc ms n index : Nat} {ret : Option FieldType} {ws : List Cond} {rm : Room} {Pc : Array Value → State → Prop} {Qc : Array Value → State → Outcome → State → Prop} {XC : String → State → State → Prop} {free : Addr → Prop} {Ts : List Cond} {own C : String} {b : Addr} {As rest : List Value} {g : JFrame}
theorem vx_runVX {hh : List (Nat × Nat × Nat × Nat)} (S : CallFix p m c cc nL s args Ts own) (hM : vx_Met l y ws rm Pc Qc XC mc ms free) (cw : vx_CVW R s args own C index y bytes maxL ret hh ws rm mc ms n) (hp : PreV s H C b Pc As)
    (hg : g.method = m) (hn : As.length = n) (hsize : g.locals.size = nL) (hstack : g.stack = As.reverse ++ .ref b :: rest) (hW : 2 * g.monitorRoom + (rest.map fun v => v.category).sum ≤ 8) (hdg : decode cc g.pc = .ok (.invokevirtual index, 3)) (hf : cells + mc ≤ R.cells ∧ slots + ms ≤ R.slots) :
    vx_Run p l e R s m args below meth c H locs cells slots mc ms g rest (Qc (Value.ref b :: As).toArray) XC free := by
  obtain ⟨⟨hrc, hrs, hfr, hlo, hws, hcw⟩, hcode, hini, hy, hlen, hl, hin, hse⟩ := cw
  have hK : vx_Back l R p e below s args y 3 8 (PreOf R mc ms Pc) (PostOf Qc mc ms free) (vx_Post XC mc ms free) := vx_backW (hh := hh) (bytes := bytes) (maxL := maxL) (ret := ret) hM hp.1 hrc hrs hfr hlo hws hcw (fun a' U hW => word_at hW (Or.inl (by first | rfl | simp [Cond.onTables, Cond.keeps, Cond.steady])) hini)
  obtain ⟨hx, hb, hml, ho, -⟩ := S
  obtain ⟨-, ⟨cellB, hcB, hoB, hclB⟩, hPc⟩ := hp
  intro T hT X
  rcases vx_callVX X hx (C := C) (hh := hh) (bytes := bytes) (maxL := maxL) (ret := ret) ho hl hin hse hcode hy hK (by rw [hT]; exact hcB) hoB hclB hg (hsize.trans hml.symm) (argsL := As) (rest := rest) (fun sig h => hn.trans (hlen sig h)) hstack hW (by rw [hb]; exact hdg)
    (fun vm₁ hW₁ => ⟨hf.1, hf.2, hPc (T.setVm vm₁) hT hW₁⟩) with ⟨v, vm₁, ⟨U', l2, c2, s2⟩, hW₁, X', ⟨g', mk, t, L, e1, e2, hq, h1, hL, h2, h3⟩, st⟩ | ⟨q, vm₁, ⟨U', l2, c2, s2⟩, hW₁, X', ⟨g', mk, t, L, E, ce, e1, e2, hq, hce, hcv, hcl, h1, hL, h2, h3⟩, st⟩
  · dsimp only [Pt.U, Pt.locs, Pt.cells, Pt.slots] at X' e1 e2 h1 h2 h3 st
    subst h1; subst h2; subst h3
    exact Or.inl ⟨v, (T.setVm vm₁).calling g' mk (Value.ref b :: As).toArray, t, U', L, hT, X', hL, e1, e2, hq, st⟩
  · dsimp only [Pt.U, Pt.locs, Pt.cells, Pt.slots] at X' e1 e2 h1 h2 h3 st hcl
    subst h1; subst h2; subst h3
    exact Or.inr ⟨q, (T.setVm vm₁).calling g' mk (Value.ref b :: As).toArray, t, U', L, E, ce, hT, X', hL, e1, e2, hq, hce, hcv, vx_cls hW₁ hcl, st⟩
theorem vx_runSX {hh : List (Nat × Nat × Nat × Nat)} (S : CallFix p m c cc nL s args Ts own) (hM : vx_Met l y ws rm Pc Qc XC mc ms free) (cw : vx_CSW R s args own index y bytes maxL ret hh ws rm mc ms n) (hp : PreS s H Pc As)
    (hg : g.method = m) (hn : As.length = n) (hsize : g.locals.size = nL) (hstack : g.stack = As.reverse ++ rest) (hW : 2 * g.monitorRoom + (rest.map fun v => v.category).sum ≤ 8) (hdg : decode cc g.pc = .ok (.invokestatic index, 3)) (hf : cells + mc ≤ R.cells ∧ slots + ms ≤ R.slots) :
    vx_Run p l e R s m args below meth c H locs cells slots mc ms g rest (Qc As.toArray) XC free := by
  obtain ⟨⟨hrc, hrs, hfr, hlo, hws, hcw⟩, hcode, hini, hy, hlen, hl, hstt⟩ := cw
  have hK : vx_Back l R p e below s args y 3 8 (PreOf R mc ms Pc) (PostOf Qc mc ms free) (vx_Post XC mc ms free) := vx_backW (hh := hh) (bytes := bytes) (maxL := maxL) (ret := ret) hM hp.1 hrc hrs hfr hlo hws hcw (fun a' U hW => word_at hW (Or.inl (by first | rfl | simp [Cond.onTables, Cond.keeps, Cond.steady])) hini)
  obtain ⟨hx, hb, hml, ho, -⟩ := S
  intro T hT X
  rcases vx_callSX X hx (hh := hh) (bytes := bytes) (maxL := maxL) (ret := ret) ho hl hstt hini hcode hy hK hg (hsize.trans hml.symm) (argsL := As) (rest := rest) (fun sig h => hn.trans (hlen sig h)) hstack hW (by rw [hb]; exact hdg)
    (fun vm₁ hW₁ => ⟨hf.1, hf.2, hp.2 (T.setVm vm₁) hT hW₁⟩) with ⟨v, vm₁, ⟨U', l2, c2, s2⟩, hW₁, X', ⟨g', mk, t, L, e1, e2, hq, h1, hL, h2, h3⟩, st⟩ | ⟨q, vm₁, ⟨U', l2, c2, s2⟩, hW₁, X', ⟨g', mk, t, L, E, ce, e1, e2, hq, hce, hcv, hcl, h1, hL, h2, h3⟩, st⟩
  · dsimp only [Pt.U, Pt.locs, Pt.cells, Pt.slots] at X' e1 e2 h1 h2 h3 st
    subst h1; subst h2; subst h3
    exact Or.inl ⟨v, (T.setVm vm₁).calling g' mk As.toArray, t, U', L, hT, X', hL, e1, e2, hq, st⟩
  · dsimp only [Pt.U, Pt.locs, Pt.cells, Pt.slots] at X' e1 e2 h1 h2 h3 st hcl
    subst h1; subst h2; subst h3
    exact Or.inr ⟨q, (T.setVm vm₁).calling g' mk As.toArray, t, U', L, E, ce, hT, X', hL, e1, e2, hq, hce, hcv, vx_cls hW₁ hcl, st⟩
end
end VXH
theorem vx_ofWH {l : Launch} {y : MethodName} {ws ws' : List Cond} {rm : Room} {Pc : Array Value → State → Prop} {Qc : Array Value → State → Outcome → State → Prop} {XC : String → State → State → Prop} {mc ms : Nat} {free : Addr → Prop} {cc : ByteArray} {maxL : Nat} {ret : Option FieldType} {hh : List (Nat × Nat × Nat × Nat)}
    (hy : plainName y.cls = true) (hw : ws = Cond.codeWith y cc maxL ret hh :: ws')
    (body : ∀ p e s m args below meth c s₁, BodyLoose p l y (headSpec ws rm) cc maxL ret e s m args below meth c s₁ → c.maxLocals = maxL → Pc args s →
      W p l e (headSpec ws rm).room s m args below meth c s.heap [] 0 0 (vx_MQ below Qc XC args s mc ms free) (entryFrame m args maxL)) : vx_Met l y ws rm Pc Qc XC mc ms free := by
  refine MetFree.of_bodyS (code := cc) (maxLocals := maxL) (ret := ret) hy ?_ ?_
  · intro args s m h hn
    obtain ⟨m9, meth, c, hn9, h1, h2, h3, h4, -, h5, h6, -⟩ := Cond.codeWith_spec (atoms_spec (ws := ws) h _ (by rw [hw]; exact List.mem_cons_self))
    cases hn.symm.trans hn9
    exact ⟨meth, c, h1, h2, h3, h4, h5, h6⟩
  · intro p e s m args below meth c s₁ B hml hP _
    have hh0 : s₁.heap = s.heap := by rw [B.state]; rfl
    obtain ⟨t, a1, o, b1, b2, b3⟩ := body p e s m args below meth c s₁ B hml hP s₁ hh0 (Stand.of_body B)
    exact ⟨t, o, a1, b1, b2, b3⟩
/-! ===== END ===== -/
end
section
def RX0 : String := "DuctRake$Numbers"
def TX0 : u_T := fun k => match k with
  | _ => ("", "", "", false)
def tyX0 : Nat → FieldType := fun k => match k with
  | _ => .int
abbrev wsX00 : List Cond := u_ws RX0 TX0 0
theorem nmX0 : ∀ a, a < 0 → ∀ b, b < 0 → a ≠ b → (TX0 a).2.1 ≠ (TX0 b).2.1 := by decide +kernel
theorem tyX0_ok : ∀ k, k < 0 → parseFieldDescriptor (TX0 k).2.2.1 = some (tyX0 k) := by decide +kernel
abbrev cX0_quotient : ByteArray := prog_2_method_2_code
def yX0_quotient : MethodName := ⟨RX0, "quotient", "(II)I"⟩
abbrev cX0_wholeRoot : ByteArray := prog_2_method_3_code
def yX0_wholeRoot : MethodName := ⟨RX0, "wholeRoot", "(I)I"⟩
abbrev cX0_bitsOfShare : ByteArray := prog_2_method_4_code
def yX0_bitsOfShare : MethodName := ⟨RX0, "bitsOfShare", "(D)J"⟩
def RX1 : String := "DuctRake$Readings"
def TX1 : u_T := fun k => match k with
  | 0 => ("DuctRake$Readings", "heads", "[I", true)
  | 1 => ("DuctRake$Readings", "sizes", "[I", true)
  | 2 => ("DuctRake$Readings", "radii", "[I", true)
  | _ => ("DuctRake$Readings", "kept", "I", false)
def tyX1 : Nat → FieldType := fun k => match k with
  | 0 => .array .int
  | 1 => .array .int
  | 2 => .array .int
  | _ => .int
abbrev wsX10 : List Cond := u_ws RX1 TX1 4
theorem nmX1 : ∀ a, a < 4 → ∀ b, b < 4 → a ≠ b → (TX1 a).2.1 ≠ (TX1 b).2.1 := by decide +kernel
theorem tyX1_ok : ∀ k, k < 4 → parseFieldDescriptor (TX1 k).2.2.1 = some (tyX1 k) := by decide +kernel
abbrev cX1_init : ByteArray := prog_3_method_1_code
def yX1_init : MethodName := ⟨RX1, "<init>", "()V"⟩
abbrev cX1_become : ByteArray := prog_3_method_2_code
def yX1_become : MethodName := ⟨RX1, "become", "(LDuctRake$Readings;)V"⟩
abbrev cX1_headOf : ByteArray := prog_3_method_3_code
def yX1_headOf : MethodName := ⟨RX1, "headOf", "(II)I"⟩
abbrev cX1_isCounting : ByteArray := prog_3_method_4_code
def yX1_isCounting : MethodName := ⟨RX1, "isCounting", "(III)Z"⟩
abbrev cX1_add : ByteArray := prog_3_method_5_code
def yX1_add : MethodName := ⟨RX1, "add", "([III)V"⟩
abbrev cX1_remove : ByteArray := prog_3_method_6_code
def yX1_remove : MethodName := ⟨RX1, "remove", "(I)V"⟩
def RX2 : String := "DuctRake$Rows"
def TX2 : u_T := fun k => match k with
  | _ => ("", "", "", false)
def tyX2 : Nat → FieldType := fun k => match k with
  | _ => .int
abbrev wsX20 : List Cond := u_ws RX2 TX2 0
theorem nmX2 : ∀ a, a < 0 → ∀ b, b < 0 → a ≠ b → (TX2 a).2.1 ≠ (TX2 b).2.1 := by decide +kernel
theorem tyX2_ok : ∀ k, k < 0 → parseFieldDescriptor (TX2 k).2.2.1 = some (tyX2 k) := by decide +kernel
abbrev cX2_at : ByteArray := prog_4_method_2_code
def yX2_at : MethodName := ⟨RX2, "at", "([II)I"⟩
abbrev cX2_put : ByteArray := prog_4_method_3_code
def yX2_put : MethodName := ⟨RX2, "put", "([III)V"⟩
abbrev cX2_copy : ByteArray := prog_4_method_4_code
def yX2_copy : MethodName := ⟨RX2, "copy", "([I[I)V"⟩
abbrev cX2_clear : ByteArray := prog_4_method_5_code
def yX2_clear : MethodName := ⟨RX2, "clear", "([I)V"⟩
def RX3 : String := "DuctRake$SavedStates"
def TX3 : u_T := fun k => match k with
  | 0 => ("DuctRake$SavedStates", "ring", "[LDuctRake$State;", true)
  | 1 => ("DuctRake$SavedStates", "next", "I", false)
  | _ => ("DuctRake$SavedStates", "kept", "I", false)
def tyX3 : Nat → FieldType := fun k => match k with
  | 0 => .array (.object "DuctRake$State")
  | 1 => .int
  | _ => .int
abbrev wsX30 : List Cond := u_ws RX3 TX3 3
theorem nmX3 : ∀ a, a < 3 → ∀ b, b < 3 → a ≠ b → (TX3 a).2.1 ≠ (TX3 b).2.1 := by decide +kernel
theorem tyX3_ok : ∀ k, k < 3 → parseFieldDescriptor (TX3 k).2.2.1 = some (tyX3 k) := by decide +kernel
abbrev cX3_init : ByteArray := prog_5_method_1_code
def yX3_init : MethodName := ⟨RX3, "<init>", "()V"⟩
abbrev cX3_push : ByteArray := prog_5_method_2_code
def yX3_push : MethodName := ⟨RX3, "push", "(LDuctRake$State;)V"⟩
abbrev cX3_popInto : ByteArray := prog_5_method_3_code
def yX3_popInto : MethodName := ⟨RX3, "popInto", "(LDuctRake$State;)V"⟩
abbrev cX3_stateAt : ByteArray := prog_5_method_4_code
def yX3_stateAt : MethodName := ⟨RX3, "stateAt", "(I)LDuctRake$State;"⟩
def RX4 : String := "DuctRake$Slot"
def TX4 : u_T := fun k => match k with
  | 0 => ("DuctRake$Slot", "snapshot", "LDuctRake$State;", true)
  | _ => ("DuctRake$Slot", "filled", "Z", false)
def tyX4 : Nat → FieldType := fun k => match k with
  | 0 => .object "DuctRake$State"
  | _ => .boolean
abbrev wsX40 : List Cond := u_ws RX4 TX4 2
theorem nmX4 : ∀ a, a < 2 → ∀ b, b < 2 → a ≠ b → (TX4 a).2.1 ≠ (TX4 b).2.1 := by decide +kernel
theorem tyX4_ok : ∀ k, k < 2 → parseFieldDescriptor (TX4 k).2.2.1 = some (tyX4 k) := by decide +kernel
abbrev cX4_init : ByteArray := prog_6_method_1_code
def yX4_init : MethodName := ⟨RX4, "<init>", "()V"⟩
def RX5 : String := "DuctRake$State"
def TX5 : u_T := fun k => match k with
  | 0 => ("DuctRake$State", "holes", "I", false)
  | 1 => ("DuctRake$State", "radius", "I", false)
  | 2 => ("DuctRake$State", "settings", "[I", true)
  | 3 => ("DuctRake$State", "passes", "[I", true)
  | 4 => ("DuctRake$State", "leaks", "[I", true)
  | 5 => ("DuctRake$State", "tests", "[I", true)
  | 6 => ("DuctRake$State", "works", "[I", true)
  | 7 => ("DuctRake$State", "readings", "LDuctRake$Readings;", true)
  | 8 => ("DuctRake$State", "readingsSoFar", "I", false)
  | 9 => ("DuctRake$State", "workOfReadings", "I", false)
  | _ => ("DuctRake$State", "workOfOldRakes", "I", false)
def tyX5 : Nat → FieldType := fun k => match k with
  | 0 => .int
  | 1 => .int
  | 2 => .array .int
  | 3 => .array .int
  | 4 => .array .int
  | 5 => .array .int
  | 6 => .array .int
  | 7 => .object "DuctRake$Readings"
  | 8 => .int
  | 9 => .int
  | _ => .int
abbrev wsX50 : List Cond := u_ws RX5 TX5 11
theorem nmX5 : ∀ a, a < 11 → ∀ b, b < 11 → a ≠ b → (TX5 a).2.1 ≠ (TX5 b).2.1 := by decide +kernel
theorem tyX5_ok : ∀ k, k < 11 → parseFieldDescriptor (TX5 k).2.2.1 = some (tyX5 k) := by decide +kernel
abbrev cX5_init : ByteArray := prog_7_method_1_code
def yX5_init : MethodName := ⟨RX5, "<init>", "()V"⟩
abbrev cX5_become : ByteArray := prog_7_method_2_code
def yX5_become : MethodName := ⟨RX5, "become", "(LDuctRake$State;)V"⟩
abbrev cX5_putRake : ByteArray := prog_7_method_3_code
def yX5_putRake : MethodName := ⟨RX5, "putRake", "(I)V"⟩
abbrev cX5_clearHole : ByteArray := prog_7_method_4_code
def yX5_clearHole : MethodName := ⟨RX5, "clearHole", "(I)V"⟩
abbrev cX5_workOfCleaning : ByteArray := prog_7_method_5_code
def yX5_workOfCleaning : MethodName := ⟨RX5, "workOfCleaning", "(I)I"⟩
abbrev cX5_addHoleWork : ByteArray := prog_7_method_6_code
def yX5_addHoleWork : MethodName := ⟨RX5, "addHoleWork", "(II)V"⟩
abbrev cX5_workOfHoles : ByteArray := prog_7_method_7_code
def yX5_workOfHoles : MethodName := ⟨RX5, "workOfHoles", "()I"⟩
abbrev cX5_takeReading : ByteArray := prog_7_method_8_code
def yX5_takeReading : MethodName := ⟨RX5, "takeReading", "([II)V"⟩
def RX6 : String := "DuctRake$TextBuffer"
def TX6 : u_T := fun k => match k with
  | 0 => ("DuctRake$TextBuffer", "codes", "[I", true)
  | _ => ("DuctRake$TextBuffer", "length", "I", false)
def tyX6 : Nat → FieldType := fun k => match k with
  | 0 => .array .int
  | _ => .int
abbrev wsX60 : List Cond := u_ws RX6 TX6 2
theorem nmX6 : ∀ a, a < 2 → ∀ b, b < 2 → a ≠ b → (TX6 a).2.1 ≠ (TX6 b).2.1 := by decide +kernel
theorem tyX6_ok : ∀ k, k < 2 → parseFieldDescriptor (TX6 k).2.2.1 = some (tyX6 k) := by decide +kernel
abbrev cX6_init : ByteArray := prog_8_method_1_code
def yX6_init : MethodName := ⟨RX6, "<init>", "()V"⟩
abbrev cX6_add : ByteArray := prog_8_method_2_code
def yX6_add : MethodName := ⟨RX6, "add", "(I)V"⟩
abbrev cX6_firstWrong : ByteArray := prog_8_method_3_code
def yX6_firstWrong : MethodName := ⟨RX6, "firstWrong", "()I"⟩
abbrev cX6_tellsReading : ByteArray := prog_8_method_4_code
def yX6_tellsReading : MethodName := ⟨RX6, "tellsReading", "()Z"⟩
abbrev cX6_headsInto : ByteArray := prog_8_method_5_code
def yX6_headsInto : MethodName := ⟨RX6, "headsInto", "([I)I"⟩
abbrev cX6_isDigit : ByteArray := prog_8_method_6_code
def yX6_isDigit : MethodName := ⟨RX6, "isDigit", "(I)Z"⟩
def RX7 : String := "DuctRake$Told"
def TX7 : u_T := fun k => match k with
  | 0 => ("DuctRake$Told", "means", "[I", true)
  | 1 => ("DuctRake$Told", "reasons", "[I", true)
  | 2 => ("DuctRake$Told", "speeds", "[I", true)
  | 3 => ("DuctRake$Told", "holes", "I", false)
  | 4 => ("DuctRake$Told", "radius", "I", false)
  | 5 => ("DuctRake$Told", "counting", "I", false)
  | _ => ("DuctRake$Told", "trusted", "I", false)
def tyX7 : Nat → FieldType := fun k => match k with
  | 0 => .array .int
  | 1 => .array .int
  | 2 => .array .int
  | 3 => .int
  | 4 => .int
  | 5 => .int
  | _ => .int
abbrev wsX70 : List Cond := u_ws RX7 TX7 7
theorem nmX7 : ∀ a, a < 7 → ∀ b, b < 7 → a ≠ b → (TX7 a).2.1 ≠ (TX7 b).2.1 := by decide +kernel
theorem tyX7_ok : ∀ k, k < 7 → parseFieldDescriptor (TX7 k).2.2.1 = some (tyX7 k) := by decide +kernel
abbrev cX7_init : ByteArray := prog_9_method_1_code
def yX7_init : MethodName := ⟨RX7, "<init>", "()V"⟩
abbrev cX7_judge : ByteArray := prog_9_method_2_code
def yX7_judge : MethodName := ⟨RX7, "judge", "(LDuctRake$State;)V"⟩
abbrev cX7_judgeIfRight : ByteArray := prog_9_method_3_code
def yX7_judgeIfRight : MethodName := ⟨RX7, "judgeIfRight", "(LDuctRake$State;II)V"⟩
abbrev cX7_takeMeans : ByteArray := prog_9_method_4_code
def yX7_takeMeans : MethodName := ⟨RX7, "takeMeans", "(LDuctRake$State;)V"⟩
abbrev cX7_giveReasons : ByteArray := prog_9_method_5_code
def yX7_giveReasons : MethodName := ⟨RX7, "giveReasons", "(LDuctRake$State;I)V"⟩
abbrev cX7_reasonFor : ByteArray := prog_9_method_6_code
def yX7_reasonFor : MethodName := ⟨RX7, "reasonFor", "(IIZ)I"⟩
abbrev cX7_tellSpeeds : ByteArray := prog_9_method_7_code
def yX7_tellSpeeds : MethodName := ⟨RX7, "tellSpeeds", "()V"⟩
abbrev cX7_mended : ByteArray := prog_9_method_8_code
def yX7_mended : MethodName := ⟨RX7, "mended", "(II)I"⟩
abbrev cX7_flowOfRings : ByteArray := prog_9_method_9_code
def yX7_flowOfRings : MethodName := ⟨RX7, "flowOfRings", "(II)I"⟩
abbrev cX7_countOfReason : ByteArray := prog_9_method_10_code
def yX7_countOfReason : MethodName := ⟨RX7, "countOfReason", "(I)I"⟩
abbrev cX7_leastByGreatest : ByteArray := prog_9_method_11_code
def yX7_leastByGreatest : MethodName := ⟨RX7, "leastByGreatest", "()D"⟩
def RX8 : String := "DuctRake$TrueFlow"
def TX8 : u_T := fun k => match k with
  | _ => ("", "", "", false)
def tyX8 : Nat → FieldType := fun k => match k with
  | _ => .int
abbrev wsX80 : List Cond := u_ws RX8 TX8 0
theorem nmX8 : ∀ a, a < 0 → ∀ b, b < 0 → a ≠ b → (TX8 a).2.1 ≠ (TX8 b).2.1 := by decide +kernel
theorem tyX8_ok : ∀ k, k < 0 → parseFieldDescriptor (TX8 k).2.2.1 = some (tyX8 k) := by decide +kernel
abbrev cX8_distance : ByteArray := prog_10_method_2_code
def yX8_distance : MethodName := ⟨RX8, "distance", "(III)I"⟩
abbrev cX8_speedAt : ByteArray := prog_10_method_3_code
def yX8_speedAt : MethodName := ⟨RX8, "speedAt", "(LDuctRake$State;II)I"⟩
abbrev cX8_headAt : ByteArray := prog_10_method_4_code
def yX8_headAt : MethodName := ⟨RX8, "headAt", "(LDuctRake$State;I)I"⟩
abbrev cX8_feltAt : ByteArray := prog_10_method_5_code
def yX8_feltAt : MethodName := ⟨RX8, "feltAt", "(LDuctRake$State;II)I"⟩
abbrev cX8_whole : ByteArray := prog_10_method_6_code
def yX8_whole : MethodName := ⟨RX8, "whole", "(LDuctRake$State;I)I"⟩
abbrev cX8_flowOfRing : ByteArray := prog_10_method_7_code
def yX8_flowOfRing : MethodName := ⟨RX8, "flowOfRing", "(III)I"⟩
def RX9 : String := "DuctRake"
def TX9 : u_T := fun k => match k with
  | 0 => ("DuctRake", "now", "LDuctRake$State;", true)
  | 1 => ("DuctRake", "saved", "LDuctRake$SavedStates;", true)
  | 2 => ("DuctRake", "firstSlot", "LDuctRake$Slot;", true)
  | 3 => ("DuctRake", "secondSlot", "LDuctRake$Slot;", true)
  | 4 => ("DuctRake", "buffer", "LDuctRake$TextBuffer;", true)
  | 5 => ("DuctRake", "toldNow", "LDuctRake$Told;", true)
  | 6 => ("DuctRake", "toldIfRight", "LDuctRake$Told;", true)
  | _ => ("DuctRake", "newHeads", "[I", true)
def tyX9 : Nat → FieldType := fun k => match k with
  | 0 => .object "DuctRake$State"
  | 1 => .object "DuctRake$SavedStates"
  | 2 => .object "DuctRake$Slot"
  | 3 => .object "DuctRake$Slot"
  | 4 => .object "DuctRake$TextBuffer"
  | 5 => .object "DuctRake$Told"
  | 6 => .object "DuctRake$Told"
  | _ => .array .int
abbrev wsX90 : List Cond := u_ws RX9 TX9 8
theorem nmX9 : ∀ a, a < 8 → ∀ b, b < 8 → a ≠ b → (TX9 a).2.1 ≠ (TX9 b).2.1 := by decide +kernel
theorem tyX9_ok : ∀ k, k < 8 → parseFieldDescriptor (TX9 k).2.2.1 = some (tyX9 k) := by decide +kernel
abbrev cX9_init : ByteArray := prog_1_method_1_code
def yX9_init : MethodName := ⟨RX9, "<init>", "()V"⟩
abbrev cX9_rake : ByteArray := prog_1_method_2_code
def yX9_rake : MethodName := ⟨RX9, "rake", "(I)I"⟩
abbrev cX9_radius : ByteArray := prog_1_method_3_code
def yX9_radius : MethodName := ⟨RX9, "radius", "(I)I"⟩
abbrev cX9_block : ByteArray := prog_1_method_4_code
def yX9_block : MethodName := ⟨RX9, "block", "(II)I"⟩
abbrev cX9_leak : ByteArray := prog_1_method_5_code
def yX9_leak : MethodName := ⟨RX9, "leak", "(II)I"⟩
abbrev cX9_clean : ByteArray := prog_1_method_6_code
def yX9_clean : MethodName := ⟨RX9, "clean", "(I)I"⟩
abbrev cX9_test : ByteArray := prog_1_method_7_code
def yX9_test : MethodName := ⟨RX9, "test", "(I)I"⟩
abbrev cX9_read : ByteArray := prog_1_method_8_code
def yX9_read : MethodName := ⟨RX9, "read", "()I"⟩
abbrev cX9_drop : ByteArray := prog_1_method_9_code
def yX9_drop : MethodName := ⟨RX9, "drop", "(I)I"⟩
abbrev cX9_set : ByteArray := prog_1_method_10_code
def yX9_set : MethodName := ⟨RX9, "set", "(II)I"⟩
abbrev cX9_append : ByteArray := prog_1_method_11_code
def yX9_append : MethodName := ⟨RX9, "append", "(I)I"⟩
abbrev cX9_clearBuffer : ByteArray := prog_1_method_12_code
def yX9_clearBuffer : MethodName := ⟨RX9, "clearBuffer", "()I"⟩
abbrev cX9_firstError : ByteArray := prog_1_method_13_code
def yX9_firstError : MethodName := ⟨RX9, "firstError", "()I"⟩
abbrev cX9_load : ByteArray := prog_1_method_14_code
def yX9_load : MethodName := ⟨RX9, "load", "()I"⟩
abbrev cX9_keep : ByteArray := prog_1_method_15_code
def yX9_keep : MethodName := ⟨RX9, "keep", "(I)I"⟩
abbrev cX9_goBack : ByteArray := prog_1_method_16_code
def yX9_goBack : MethodName := ⟨RX9, "goBack", "(I)I"⟩
abbrev cX9_undo : ByteArray := prog_1_method_17_code
def yX9_undo : MethodName := ⟨RX9, "undo", "()I"⟩
abbrev cX9_hole : ByteArray := prog_1_method_18_code
def yX9_hole : MethodName := ⟨RX9, "hole", "(II)I"⟩
abbrev cX9_reading : ByteArray := prog_1_method_19_code
def yX9_reading : MethodName := ⟨RX9, "reading", "(II)I"⟩
abbrev cX9_flow : ByteArray := prog_1_method_20_code
def yX9_flow : MethodName := ⟨RX9, "flow", "(I)I"⟩
abbrev cX9_count : ByteArray := prog_1_method_21_code
def yX9_count : MethodName := ⟨RX9, "count", "(I)I"⟩
abbrev cX9_setting : ByteArray := prog_1_method_22_code
def yX9_setting : MethodName := ⟨RX9, "setting", "(I)I"⟩
abbrev cX9_ifRight : ByteArray := prog_1_method_23_code
def yX9_ifRight : MethodName := ⟨RX9, "ifRight", "(I)I"⟩
abbrev cX9_worst : ByteArray := prog_1_method_24_code
def yX9_worst : MethodName := ⟨RX9, "worst", "()I"⟩
abbrev cX9_ifRake : ByteArray := prog_1_method_25_code
def yX9_ifRake : MethodName := ⟨RX9, "ifRake", "(I)I"⟩
abbrev cX9_fineRake : ByteArray := prog_1_method_26_code
def yX9_fineRake : MethodName := ⟨RX9, "fineRake", "(I)I"⟩
abbrev cX9_evenness : ByteArray := prog_1_method_27_code
def yX9_evenness : MethodName := ⟨RX9, "evenness", "()D"⟩
abbrev cX9_digest : ByteArray := prog_1_method_28_code
def yX9_digest : MethodName := ⟨RX9, "digest", "()J"⟩
abbrev cX9_isNoRake : ByteArray := prog_1_method_29_code
def yX9_isNoRake : MethodName := ⟨RX9, "isNoRake", "(I)Z"⟩
abbrev cX9_isNoSetting : ByteArray := prog_1_method_30_code
def yX9_isNoSetting : MethodName := ⟨RX9, "isNoSetting", "(I)Z"⟩
abbrev cX9_isNoSlot : ByteArray := prog_1_method_31_code
def yX9_isNoSlot : MethodName := ⟨RX9, "isNoSlot", "(I)Z"⟩
abbrev cX9_isNoHole : ByteArray := prog_1_method_32_code
def yX9_isNoHole : MethodName := ⟨RX9, "isNoHole", "(I)Z"⟩
abbrev cX9_isNoReading : ByteArray := prog_1_method_33_code
def yX9_isNoReading : MethodName := ⟨RX9, "isNoReading", "(I)Z"⟩
abbrev cX9_slotOf : ByteArray := prog_1_method_34_code
def yX9_slotOf : MethodName := ⟨RX9, "slotOf", "(I)LDuctRake$Slot;"⟩
abbrev cX9_holeValue : ByteArray := prog_1_method_35_code
def yX9_holeValue : MethodName := ⟨RX9, "holeValue", "(IILDuctRake$Told;)I"⟩
abbrev cX9_readingValue : ByteArray := prog_1_method_36_code
def yX9_readingValue : MethodName := ⟨RX9, "readingValue", "(II)I"⟩
abbrev cX9_flowValue : ByteArray := prog_1_method_37_code
def yX9_flowValue : MethodName := ⟨RX9, "flowValue", "(ILDuctRake$Told;)I"⟩
abbrev cX9_countValue : ByteArray := prog_1_method_38_code
def yX9_countValue : MethodName := ⟨RX9, "countValue", "(ILDuctRake$Told;)I"⟩
abbrev cX9_wholeIfRight : ByteArray := prog_1_method_39_code
def yX9_wholeIfRight : MethodName := ⟨RX9, "wholeIfRight", "(I)I"⟩
abbrev cX9_worstHole : ByteArray := prog_1_method_40_code
def yX9_worstHole : MethodName := ⟨RX9, "worstHole", "(LDuctRake$Told;)I"⟩
abbrev cX9_fewestHoles : ByteArray := prog_1_method_41_code
def yX9_fewestHoles : MethodName := ⟨RX9, "fewestHoles", "(I)I"⟩
abbrev cX9_mixed : ByteArray := prog_1_method_42_code
def yX9_mixed : MethodName := ⟨RX9, "mixed", "(JJ)J"⟩
abbrev cX9_mixedWithHoles : ByteArray := prog_1_method_43_code
def yX9_mixedWithHoles : MethodName := ⟨RX9, "mixedWithHoles", "(JLDuctRake$Told;)J"⟩
abbrev cX9_mixedWithReadings : ByteArray := prog_1_method_44_code
def yX9_mixedWithReadings : MethodName := ⟨RX9, "mixedWithReadings", "(J)J"⟩
abbrev cX9_mixedWithBuffer : ByteArray := prog_1_method_45_code
def yX9_mixedWithBuffer : MethodName := ⟨RX9, "mixedWithBuffer", "(J)J"⟩
def RX10 : String := "DuctRakeModel"
def TX10 : u_T := fun k => match k with
  | 0 => ("DuctRakeModel", "thrown", "I", false)
  | 1 => ("DuctRakeModel", "s", "[I", true)
  | 2 => ("DuctRakeModel", "saved", "[I", true)
  | 3 => ("DuctRakeModel", "savedMany", "I", false)
  | 4 => ("DuctRakeModel", "slots", "[I", true)
  | 5 => ("DuctRakeModel", "hasSlot", "[Z", true)
  | 6 => ("DuctRakeModel", "buffer", "[I", true)
  | 7 => ("DuctRakeModel", "length", "I", false)
  | 8 => ("DuctRakeModel", "counting", "I", false)
  | 9 => ("DuctRakeModel", "means", "[I", true)
  | 10 => ("DuctRakeModel", "reasons", "[I", true)
  | 11 => ("DuctRakeModel", "told", "[I", true)
  | 12 => ("DuctRakeModel", "trusted", "I", false)
  | 13 => ("DuctRakeModel", "at", "I", false)
  | 14 => ("DuctRakeModel", "isWell", "Z", false)
  | 15 => ("DuctRakeModel", "read", "[I", true)
  | 16 => ("DuctRakeModel", "readMany", "I", false)
  | _ => ("DuctRakeModel", "hash", "J", false)
def tyX10 : Nat → FieldType := fun k => match k with
  | 0 => .int
  | 1 => .array .int
  | 2 => .array .int
  | 3 => .int
  | 4 => .array .int
  | 5 => .array .boolean
  | 6 => .array .int
  | 7 => .int
  | 8 => .int
  | 9 => .array .int
  | 10 => .array .int
  | 11 => .array .int
  | 12 => .int
  | 13 => .int
  | 14 => .boolean
  | 15 => .array .int
  | 16 => .int
  | _ => .long
abbrev wsX100 : List Cond := u_ws RX10 TX10 18
theorem nmX10 : ∀ a, a < 18 → ∀ b, b < 18 → a ≠ b → (TX10 a).2.1 ≠ (TX10 b).2.1 := by decide +kernel
theorem tyX10_ok : ∀ k, k < 18 → parseFieldDescriptor (TX10 k).2.2.1 = some (tyX10 k) := by decide +kernel
abbrev cX10_init : ByteArray := prog_12_method_1_code
def yX10_init : MethodName := ⟨RX10, "<init>", "()V"⟩
abbrev cX10_thrown : ByteArray := prog_12_method_2_code
def yX10_thrown : MethodName := ⟨RX10, "thrown", "()I"⟩
abbrev cX10_in : ByteArray := prog_12_method_3_code
def yX10_in : MethodName := ⟨RX10, "in", "(III)Z"⟩
abbrev cX10_fails : ByteArray := prog_12_method_4_code
def yX10_fails : MethodName := ⟨RX10, "fails", "(I)I"⟩
abbrev cX10_of : ByteArray := prog_12_method_5_code
def yX10_of : MethodName := ⟨RX10, "of", "(II)I"⟩
abbrev cX10_lay : ByteArray := prog_12_method_6_code
def yX10_lay : MethodName := ⟨RX10, "lay", "(III)V"⟩
abbrev cX10_ofReading : ByteArray := prog_12_method_7_code
def yX10_ofReading : MethodName := ⟨RX10, "ofReading", "(II)I"⟩
abbrev cX10_isHole : ByteArray := prog_12_method_8_code
def yX10_isHole : MethodName := ⟨RX10, "isHole", "(I)Z"⟩
abbrev cX10_clearsHoles : ByteArray := prog_12_method_9_code
def yX10_clearsHoles : MethodName := ⟨RX10, "clearsHoles", "()V"⟩
abbrev cX10_saves : ByteArray := prog_12_method_10_code
def yX10_saves : MethodName := ⟨RX10, "saves", "()V"⟩
abbrev cX10_root : ByteArray := prog_12_method_11_code
def yX10_root : MethodName := ⟨RX10, "root", "(I)I"⟩
abbrev cX10_distance : ByteArray := prog_12_method_12_code
def yX10_distance : MethodName := ⟨RX10, "distance", "(II)I"⟩
abbrev cX10_trueSpeed : ByteArray := prog_12_method_13_code
def yX10_trueSpeed : MethodName := ⟨RX10, "trueSpeed", "(II)I"⟩
abbrev cX10_trueHead : ByteArray := prog_12_method_14_code
def yX10_trueHead : MethodName := ⟨RX10, "trueHead", "(I)I"⟩
abbrev cX10_felt : ByteArray := prog_12_method_15_code
def yX10_felt : MethodName := ⟨RX10, "felt", "(I)I"⟩
abbrev cX10_ringFlow : ByteArray := prog_12_method_16_code
def yX10_ringFlow : MethodName := ⟨RX10, "ringFlow", "(II)I"⟩
abbrev cX10_trueFlow : ByteArray := prog_12_method_17_code
def yX10_trueFlow : MethodName := ⟨RX10, "trueFlow", "(I)I"⟩
abbrev cX10_counts : ByteArray := prog_12_method_18_code
def yX10_counts : MethodName := ⟨RX10, "counts", "(I)Z"⟩
abbrev cX10_laysMeans : ByteArray := prog_12_method_19_code
def yX10_laysMeans : MethodName := ⟨RX10, "laysMeans", "()V"⟩
abbrev cX10_reason : ByteArray := prog_12_method_20_code
def yX10_reason : MethodName := ⟨RX10, "reason", "(IIZ)I"⟩
abbrev cX10_nearest : ByteArray := prog_12_method_21_code
def yX10_nearest : MethodName := ⟨RX10, "nearest", "(II)I"⟩
abbrev cX10_mended : ByteArray := prog_12_method_22_code
def yX10_mended : MethodName := ⟨RX10, "mended", "(I)I"⟩
abbrev cX10_laysTold : ByteArray := prog_12_method_23_code
def yX10_laysTold : MethodName := ⟨RX10, "laysTold", "(I)V"⟩
abbrev cX10_laysAll : ByteArray := prog_12_method_24_code
def yX10_laysAll : MethodName := ⟨RX10, "laysAll", "()V"⟩
abbrev cX10_flowOf : ByteArray := prog_12_method_25_code
def yX10_flowOf : MethodName := ⟨RX10, "flowOf", "(II)I"⟩
abbrev cX10_holeWork : ByteArray := prog_12_method_26_code
def yX10_holeWork : MethodName := ⟨RX10, "holeWork", "()I"⟩
abbrev cX10_rake : ByteArray := prog_12_method_27_code
def yX10_rake : MethodName := ⟨RX10, "rake", "(I)I"⟩
abbrev cX10_radius : ByteArray := prog_12_method_28_code
def yX10_radius : MethodName := ⟨RX10, "radius", "(I)I"⟩
abbrev cX10_changes : ByteArray := prog_12_method_29_code
def yX10_changes : MethodName := ⟨RX10, "changes", "(III)I"⟩
abbrev cX10_block : ByteArray := prog_12_method_30_code
def yX10_block : MethodName := ⟨RX10, "block", "(II)I"⟩
abbrev cX10_leak : ByteArray := prog_12_method_31_code
def yX10_leak : MethodName := ⟨RX10, "leak", "(II)I"⟩
abbrev cX10_clean : ByteArray := prog_12_method_32_code
def yX10_clean : MethodName := ⟨RX10, "clean", "(I)I"⟩
abbrev cX10_test : ByteArray := prog_12_method_33_code
def yX10_test : MethodName := ⟨RX10, "test", "(I)I"⟩
abbrev cX10_drops : ByteArray := prog_12_method_34_code
def yX10_drops : MethodName := ⟨RX10, "drops", "(I)V"⟩
abbrev cX10_comes : ByteArray := prog_12_method_35_code
def yX10_comes : MethodName := ⟨RX10, "comes", "(I)I"⟩
abbrev cX10_read : ByteArray := prog_12_method_36_code
def yX10_read : MethodName := ⟨RX10, "read", "()I"⟩
abbrev cX10_drop : ByteArray := prog_12_method_37_code
def yX10_drop : MethodName := ⟨RX10, "drop", "(I)I"⟩
abbrev cX10_isSetting : ByteArray := prog_12_method_38_code
def yX10_isSetting : MethodName := ⟨RX10, "isSetting", "(II)Z"⟩
abbrev cX10_set : ByteArray := prog_12_method_39_code
def yX10_set : MethodName := ⟨RX10, "set", "(II)I"⟩
abbrev cX10_append : ByteArray := prog_12_method_40_code
def yX10_append : MethodName := ⟨RX10, "append", "(I)I"⟩
abbrev cX10_clearBuffer : ByteArray := prog_12_method_41_code
def yX10_clearBuffer : MethodName := ⟨RX10, "clearBuffer", "()I"⟩
abbrev cX10_sign : ByteArray := prog_12_method_42_code
def yX10_sign : MethodName := ⟨RX10, "sign", "()I"⟩
abbrev cX10_readsHead : ByteArray := prog_12_method_43_code
def yX10_readsHead : MethodName := ⟨RX10, "readsHead", "()V"⟩
abbrev cX10_readsAll : ByteArray := prog_12_method_44_code
def yX10_readsAll : MethodName := ⟨RX10, "readsAll", "()V"⟩
abbrev cX10_firstError : ByteArray := prog_12_method_45_code
def yX10_firstError : MethodName := ⟨RX10, "firstError", "()I"⟩
abbrev cX10_load : ByteArray := prog_12_method_46_code
def yX10_load : MethodName := ⟨RX10, "load", "()I"⟩
abbrev cX10_keep : ByteArray := prog_12_method_47_code
def yX10_keep : MethodName := ⟨RX10, "keep", "(I)I"⟩
abbrev cX10_goBack : ByteArray := prog_12_method_48_code
def yX10_goBack : MethodName := ⟨RX10, "goBack", "(I)I"⟩
abbrev cX10_undo : ByteArray := prog_12_method_49_code
def yX10_undo : MethodName := ⟨RX10, "undo", "()I"⟩
abbrev cX10_tellsHole : ByteArray := prog_12_method_50_code
def yX10_tellsHole : MethodName := ⟨RX10, "tellsHole", "(II)I"⟩
abbrev cX10_hole : ByteArray := prog_12_method_51_code
def yX10_hole : MethodName := ⟨RX10, "hole", "(II)I"⟩
abbrev cX10_tellsReading : ByteArray := prog_12_method_52_code
def yX10_tellsReading : MethodName := ⟨RX10, "tellsReading", "(II)I"⟩
abbrev cX10_reading : ByteArray := prog_12_method_53_code
def yX10_reading : MethodName := ⟨RX10, "reading", "(II)I"⟩
abbrev cX10_tellsFlow : ByteArray := prog_12_method_54_code
def yX10_tellsFlow : MethodName := ⟨RX10, "tellsFlow", "(I)I"⟩
abbrev cX10_flow : ByteArray := prog_12_method_55_code
def yX10_flow : MethodName := ⟨RX10, "flow", "(I)I"⟩
abbrev cX10_holesFor : ByteArray := prog_12_method_56_code
def yX10_holesFor : MethodName := ⟨RX10, "holesFor", "(I)I"⟩
abbrev cX10_tellsCount : ByteArray := prog_12_method_57_code
def yX10_tellsCount : MethodName := ⟨RX10, "tellsCount", "(I)I"⟩
abbrev cX10_count : ByteArray := prog_12_method_58_code
def yX10_count : MethodName := ⟨RX10, "count", "(I)I"⟩
abbrev cX10_setting : ByteArray := prog_12_method_59_code
def yX10_setting : MethodName := ⟨RX10, "setting", "(I)I"⟩
abbrev cX10_wholeIfRight : ByteArray := prog_12_method_60_code
def yX10_wholeIfRight : MethodName := ⟨RX10, "wholeIfRight", "(I)I"⟩
abbrev cX10_ifRight : ByteArray := prog_12_method_61_code
def yX10_ifRight : MethodName := ⟨RX10, "ifRight", "(I)I"⟩
abbrev cX10_worstOne : ByteArray := prog_12_method_62_code
def yX10_worstOne : MethodName := ⟨RX10, "worstOne", "()I"⟩
abbrev cX10_worst : ByteArray := prog_12_method_63_code
def yX10_worst : MethodName := ⟨RX10, "worst", "()I"⟩
abbrev cX10_ifRake : ByteArray := prog_12_method_64_code
def yX10_ifRake : MethodName := ⟨RX10, "ifRake", "(I)I"⟩
abbrev cX10_fine : ByteArray := prog_12_method_65_code
def yX10_fine : MethodName := ⟨RX10, "fine", "(I)I"⟩
abbrev cX10_fineRake : ByteArray := prog_12_method_66_code
def yX10_fineRake : MethodName := ⟨RX10, "fineRake", "(I)I"⟩
abbrev cX10_even : ByteArray := prog_12_method_67_code
def yX10_even : MethodName := ⟨RX10, "even", "()D"⟩
abbrev cX10_evenness : ByteArray := prog_12_method_68_code
def yX10_evenness : MethodName := ⟨RX10, "evenness", "()D"⟩
abbrev cX10_hashes : ByteArray := prog_12_method_69_code
def yX10_hashes : MethodName := ⟨RX10, "hashes", "(J)V"⟩
abbrev cX10_hashesHole : ByteArray := prog_12_method_70_code
def yX10_hashesHole : MethodName := ⟨RX10, "hashesHole", "(I)V"⟩
abbrev cX10_digest : ByteArray := prog_12_method_71_code
def yX10_digest : MethodName := ⟨RX10, "digest", "()J"⟩
def RJx8e188 : String := "java/lang/Cloneable"
def TJx8e188 : u_T := fun k => match k with
  | _ => ("", "", "", false)
def tyJx8e188 : Nat → FieldType := fun k => match k with
  | _ => .int
abbrev wsJx8e1880 : List Cond := u_ws RJx8e188 TJx8e188 0
theorem nmJx8e188 : ∀ a, a < 0 → ∀ b, b < 0 → a ≠ b → (TJx8e188 a).2.1 ≠ (TJx8e188 b).2.1 := by decide +kernel
theorem tyJx8e188_ok : ∀ k, k < 0 → parseFieldDescriptor (TJx8e188 k).2.2.1 = some (tyJx8e188 k) := by decide +kernel
def RJxe99ae : String := "java/lang/Double"
def TJxe99ae : u_T := fun k => match k with
  | _ => ("", "", "", false)
def tyJxe99ae : Nat → FieldType := fun k => match k with
  | _ => .int
abbrev wsJxe99ae0 : List Cond := u_ws RJxe99ae TJxe99ae 0
theorem nmJxe99ae : ∀ a, a < 0 → ∀ b, b < 0 → a ≠ b → (TJxe99ae a).2.1 ≠ (TJxe99ae b).2.1 := by decide +kernel
theorem tyJxe99ae_ok : ∀ k, k < 0 → parseFieldDescriptor (TJxe99ae k).2.2.1 = some (tyJxe99ae k) := by decide +kernel
abbrev cJxe99ae_isNaN_b9ae7 : ByteArray := prog_14_method_6_code
def yJxe99ae_isNaN_b9ae7 : MethodName := ⟨RJxe99ae, "isNaN", "(D)Z"⟩
abbrev cJxe99ae_doubleToLongBits_ccdee : ByteArray := prog_14_method_23_code
def yJxe99ae_doubleToLongBits_ccdee : MethodName := ⟨RJxe99ae, "doubleToLongBits", "(D)J"⟩
def RJ9 : String := "java/lang/Math"
def TJ9 : u_T := fun k => match k with
  | _ => ("", "", "", false)
def tyJ9 : Nat → FieldType := fun k => match k with
  | _ => .int
abbrev wsJ90 : List Cond := u_ws RJ9 TJ9 0
theorem nmJ9 : ∀ a, a < 0 → ∀ b, b < 0 → a ≠ b → (TJ9 a).2.1 ≠ (TJ9 b).2.1 := by decide +kernel
theorem tyJ9_ok : ∀ k, k < 0 → parseFieldDescriptor (TJ9 k).2.2.1 = some (tyJ9 k) := by decide +kernel
abbrev cJ9_abs_0f7a4 : ByteArray := prog_19_method_59_code
def yJ9_abs_0f7a4 : MethodName := ⟨RJ9, "abs", "(I)I"⟩
abbrev cJ9_max_7cf53 : ByteArray := prog_19_method_65_code
def yJ9_max_7cf53 : MethodName := ⟨RJ9, "max", "(II)I"⟩
abbrev cJ9_min_7cf53 : ByteArray := prog_19_method_69_code
def yJ9_min_7cf53 : MethodName := ⟨RJ9, "min", "(II)I"⟩
def RJ0 : String := "java/lang/String"
def TJ0 : u_T := fun k => match k with
  | _ => ("", "", "", false)
def tyJ0 : Nat → FieldType := fun k => match k with
  | _ => .int
abbrev wsJ00 : List Cond := u_ws RJ0 TJ0 0
theorem nmJ0 : ∀ a, a < 0 → ∀ b, b < 0 → a ≠ b → (TJ0 a).2.1 ≠ (TJ0 b).2.1 := by decide +kernel
theorem tyJ0_ok : ∀ k, k < 0 → parseFieldDescriptor (TJ0 k).2.2.1 = some (tyJ0 k) := by decide +kernel
def RL : String := "DuctRakeLaw"
abbrev cL_rake : ByteArray := method_3_code
def yL_rake : MethodName := ⟨RL, "rake", "(LDuctRake;I[J)I"⟩
abbrev cL_radius : ByteArray := method_4_code
def yL_radius : MethodName := ⟨RL, "radius", "(LDuctRake;I[J)I"⟩
abbrev cL_block : ByteArray := method_5_code
def yL_block : MethodName := ⟨RL, "block", "(LDuctRake;II[J)I"⟩
abbrev cL_leak : ByteArray := method_6_code
def yL_leak : MethodName := ⟨RL, "leak", "(LDuctRake;II[J)I"⟩
abbrev cL_clean : ByteArray := method_7_code
def yL_clean : MethodName := ⟨RL, "clean", "(LDuctRake;I[J)I"⟩
abbrev cL_test : ByteArray := method_8_code
def yL_test : MethodName := ⟨RL, "test", "(LDuctRake;I[J)I"⟩
abbrev cL_drop : ByteArray := method_9_code
def yL_drop : MethodName := ⟨RL, "drop", "(LDuctRake;I[J)I"⟩
abbrev cL_set : ByteArray := method_10_code
def yL_set : MethodName := ⟨RL, "set", "(LDuctRake;II[J)I"⟩
abbrev cL_append : ByteArray := method_11_code
def yL_append : MethodName := ⟨RL, "append", "(LDuctRake;I[J)I"⟩
abbrev cL_load : ByteArray := method_12_code
def yL_load : MethodName := ⟨RL, "load", "(LDuctRake;[J)I"⟩
abbrev cL_keep : ByteArray := method_13_code
def yL_keep : MethodName := ⟨RL, "keep", "(LDuctRake;I[J)I"⟩
abbrev cL_goBack : ByteArray := method_14_code
def yL_goBack : MethodName := ⟨RL, "goBack", "(LDuctRake;I[J)I"⟩
abbrev cL_undo : ByteArray := method_15_code
def yL_undo : MethodName := ⟨RL, "undo", "(LDuctRake;[J)I"⟩
abbrev cL_hole : ByteArray := method_16_code
def yL_hole : MethodName := ⟨RL, "hole", "(LDuctRake;II[J)I"⟩
abbrev cL_reading : ByteArray := method_17_code
def yL_reading : MethodName := ⟨RL, "reading", "(LDuctRake;II[J)I"⟩
abbrev cL_flow : ByteArray := method_18_code
def yL_flow : MethodName := ⟨RL, "flow", "(LDuctRake;I[J)I"⟩
abbrev cL_count : ByteArray := method_19_code
def yL_count : MethodName := ⟨RL, "count", "(LDuctRake;I[J)I"⟩
abbrev cL_setting : ByteArray := method_20_code
def yL_setting : MethodName := ⟨RL, "setting", "(LDuctRake;I[J)I"⟩
abbrev cL_ifRight : ByteArray := method_21_code
def yL_ifRight : MethodName := ⟨RL, "ifRight", "(LDuctRake;I[J)I"⟩
abbrev cL_ifRake : ByteArray := method_22_code
def yL_ifRake : MethodName := ⟨RL, "ifRake", "(LDuctRake;I[J)I"⟩
abbrev cL_fineRake : ByteArray := method_23_code
def yL_fineRake : MethodName := ⟨RL, "fineRake", "(LDuctRake;I[J)I"⟩
abbrev cL_law : ByteArray := code
def yL_law : MethodName := ⟨RL, "law", "([I)Z"⟩
abbrev vwCl : List vw_C := [(RX1, TX1, 4), (RX3, TX3, 3), (RX4, TX4, 2), (RX5, TX5, 11), (RX6, TX6, 2), (RX7, TX7, 7), (RX9, TX9, 8), (RX10, TX10, 18)]
end
section
theorem ws9_X3_stateAt : Cond.selects RX3 yX3_stateAt yX3_stateAt ∈ lw_tbl := List.mem_of_getElem? (i := 0) (by decide +kernel)
theorem ws9_X7_takeMeans : Cond.selects RX7 yX7_takeMeans yX7_takeMeans ∈ lw_tbl := List.mem_of_getElem? (i := 1) (by decide +kernel)
theorem ws9_X7_giveReasons : Cond.selects RX7 yX7_giveReasons yX7_giveReasons ∈ lw_tbl := List.mem_of_getElem? (i := 2) (by decide +kernel)
theorem ws9_X7_reasonFor : Cond.selects RX7 yX7_reasonFor yX7_reasonFor ∈ lw_tbl := List.mem_of_getElem? (i := 3) (by decide +kernel)
theorem ws9_X7_tellSpeeds : Cond.selects RX7 yX7_tellSpeeds yX7_tellSpeeds ∈ lw_tbl := List.mem_of_getElem? (i := 4) (by decide +kernel)
theorem ws9_X9_worstHole : Cond.selects RX9 yX9_worstHole yX9_worstHole ∈ lw_tbl := List.mem_of_getElem? (i := 5) (by decide +kernel)
theorem ws9_X9_wholeIfRight : Cond.selects RX9 yX9_wholeIfRight yX9_wholeIfRight ∈ lw_tbl := List.mem_of_getElem? (i := 6) (by decide +kernel)
theorem ws9_X9_countValue : Cond.selects RX9 yX9_countValue yX9_countValue ∈ lw_tbl := List.mem_of_getElem? (i := 7) (by decide +kernel)
theorem ws9_X9_mixedWithHoles : Cond.selects RX9 yX9_mixedWithHoles yX9_mixedWithHoles ∈ lw_tbl := List.mem_of_getElem? (i := 8) (by decide +kernel)
theorem ws9_X9_holeValue : Cond.selects RX9 yX9_holeValue yX9_holeValue ∈ lw_tbl := List.mem_of_getElem? (i := 9) (by decide +kernel)
theorem ws9_X9_mixedWithReadings : Cond.selects RX9 yX9_mixedWithReadings yX9_mixedWithReadings ∈ lw_tbl := List.mem_of_getElem? (i := 10) (by decide +kernel)
theorem ws9_X9_readingValue : Cond.selects RX9 yX9_readingValue yX9_readingValue ∈ lw_tbl := List.mem_of_getElem? (i := 11) (by decide +kernel)
theorem ws9_X9_flowValue : Cond.selects RX9 yX9_flowValue yX9_flowValue ∈ lw_tbl := List.mem_of_getElem? (i := 12) (by decide +kernel)
theorem ws9_X9_fewestHoles : Cond.selects RX9 yX9_fewestHoles yX9_fewestHoles ∈ lw_tbl := List.mem_of_getElem? (i := 13) (by decide +kernel)
theorem ws9_X9_mixedWithBuffer : Cond.selects RX9 yX9_mixedWithBuffer yX9_mixedWithBuffer ∈ lw_tbl := List.mem_of_getElem? (i := 14) (by decide +kernel)
theorem ws9_X9_isNoHole : Cond.selects RX9 yX9_isNoHole yX9_isNoHole ∈ lw_tbl := List.mem_of_getElem? (i := 16) (by decide +kernel)
theorem ws9_X9_isNoReading : Cond.selects RX9 yX9_isNoReading yX9_isNoReading ∈ lw_tbl := List.mem_of_getElem? (i := 17) (by decide +kernel)
theorem ws9_X9_slotOf : Cond.selects RX9 yX9_slotOf yX9_slotOf ∈ lw_tbl := List.mem_of_getElem? (i := 18) (by decide +kernel)
theorem ws9_X10_clearsHoles : Cond.selects RX10 yX10_clearsHoles yX10_clearsHoles ∈ lw_tbl := List.mem_of_getElem? (i := 19) (by decide +kernel)
theorem ws9_X10_lay : Cond.selects RX10 yX10_lay yX10_lay ∈ lw_tbl := List.mem_of_getElem? (i := 20) (by decide +kernel)
theorem ws9_X10_fails : Cond.selects RX10 yX10_fails yX10_fails ∈ lw_tbl := List.mem_of_getElem? (i := 21) (by decide +kernel)
theorem ws9_X10_saves : Cond.selects RX10 yX10_saves yX10_saves ∈ lw_tbl := List.mem_of_getElem? (i := 22) (by decide +kernel)
theorem ws9_X10_holeWork : Cond.selects RX10 yX10_holeWork yX10_holeWork ∈ lw_tbl := List.mem_of_getElem? (i := 23) (by decide +kernel)
theorem ws9_X10_of : Cond.selects RX10 yX10_of yX10_of ∈ lw_tbl := List.mem_of_getElem? (i := 24) (by decide +kernel)
theorem ws9_X10_changes : Cond.selects RX10 yX10_changes yX10_changes ∈ lw_tbl := List.mem_of_getElem? (i := 25) (by decide +kernel)
theorem ws9_X10_isHole : Cond.selects RX10 yX10_isHole yX10_isHole ∈ lw_tbl := List.mem_of_getElem? (i := 26) (by decide +kernel)
theorem ws9_X10_comes : Cond.selects RX10 yX10_comes yX10_comes ∈ lw_tbl := List.mem_of_getElem? (i := 27) (by decide +kernel)
theorem ws9_X10_drops : Cond.selects RX10 yX10_drops yX10_drops ∈ lw_tbl := List.mem_of_getElem? (i := 28) (by decide +kernel)
theorem ws9_X10_felt : Cond.selects RX10 yX10_felt yX10_felt ∈ lw_tbl := List.mem_of_getElem? (i := 29) (by decide +kernel)
theorem ws9_X10_trueHead : Cond.selects RX10 yX10_trueHead yX10_trueHead ∈ lw_tbl := List.mem_of_getElem? (i := 30) (by decide +kernel)
theorem ws9_X10_trueSpeed : Cond.selects RX10 yX10_trueSpeed yX10_trueSpeed ∈ lw_tbl := List.mem_of_getElem? (i := 31) (by decide +kernel)
theorem ws9_X10_distance : Cond.selects RX10 yX10_distance yX10_distance ∈ lw_tbl := List.mem_of_getElem? (i := 32) (by decide +kernel)
theorem ws9_X10_readsAll : Cond.selects RX10 yX10_readsAll yX10_readsAll ∈ lw_tbl := List.mem_of_getElem? (i := 33) (by decide +kernel)
theorem ws9_X10_readsHead : Cond.selects RX10 yX10_readsHead yX10_readsHead ∈ lw_tbl := List.mem_of_getElem? (i := 34) (by decide +kernel)
theorem ws9_X10_sign : Cond.selects RX10 yX10_sign yX10_sign ∈ lw_tbl := List.mem_of_getElem? (i := 35) (by decide +kernel)
theorem ws9_X10_tellsHole : Cond.selects RX10 yX10_tellsHole yX10_tellsHole ∈ lw_tbl := List.mem_of_getElem? (i := 36) (by decide +kernel)
theorem ws9_X10_laysAll : Cond.selects RX10 yX10_laysAll yX10_laysAll ∈ lw_tbl := List.mem_of_getElem? (i := 37) (by decide +kernel)
theorem ws9_X10_laysMeans : Cond.selects RX10 yX10_laysMeans yX10_laysMeans ∈ lw_tbl := List.mem_of_getElem? (i := 38) (by decide +kernel)
theorem ws9_X10_counts : Cond.selects RX10 yX10_counts yX10_counts ∈ lw_tbl := List.mem_of_getElem? (i := 39) (by decide +kernel)
theorem ws9_X10_ofReading : Cond.selects RX10 yX10_ofReading yX10_ofReading ∈ lw_tbl := List.mem_of_getElem? (i := 40) (by decide +kernel)
theorem ws9_X10_laysTold : Cond.selects RX10 yX10_laysTold yX10_laysTold ∈ lw_tbl := List.mem_of_getElem? (i := 41) (by decide +kernel)
theorem ws9_X10_reason : Cond.selects RX10 yX10_reason yX10_reason ∈ lw_tbl := List.mem_of_getElem? (i := 42) (by decide +kernel)
theorem ws9_X10_mended : Cond.selects RX10 yX10_mended yX10_mended ∈ lw_tbl := List.mem_of_getElem? (i := 43) (by decide +kernel)
theorem ws9_X10_nearest : Cond.selects RX10 yX10_nearest yX10_nearest ∈ lw_tbl := List.mem_of_getElem? (i := 44) (by decide +kernel)
theorem ws9_X10_flowOf : Cond.selects RX10 yX10_flowOf yX10_flowOf ∈ lw_tbl := List.mem_of_getElem? (i := 45) (by decide +kernel)
theorem ws9_X10_ringFlow : Cond.selects RX10 yX10_ringFlow yX10_ringFlow ∈ lw_tbl := List.mem_of_getElem? (i := 46) (by decide +kernel)
theorem ws9_X10_tellsReading : Cond.selects RX10 yX10_tellsReading yX10_tellsReading ∈ lw_tbl := List.mem_of_getElem? (i := 47) (by decide +kernel)
theorem ws9_X10_tellsFlow : Cond.selects RX10 yX10_tellsFlow yX10_tellsFlow ∈ lw_tbl := List.mem_of_getElem? (i := 48) (by decide +kernel)
theorem ws9_X10_trueFlow : Cond.selects RX10 yX10_trueFlow yX10_trueFlow ∈ lw_tbl := List.mem_of_getElem? (i := 49) (by decide +kernel)
theorem ws9_X10_tellsCount : Cond.selects RX10 yX10_tellsCount yX10_tellsCount ∈ lw_tbl := List.mem_of_getElem? (i := 50) (by decide +kernel)
theorem ws9_X10_holesFor : Cond.selects RX10 yX10_holesFor yX10_holesFor ∈ lw_tbl := List.mem_of_getElem? (i := 51) (by decide +kernel)
theorem ws9_X10_wholeIfRight : Cond.selects RX10 yX10_wholeIfRight yX10_wholeIfRight ∈ lw_tbl := List.mem_of_getElem? (i := 52) (by decide +kernel)
theorem ws9_X10_worstOne : Cond.selects RX10 yX10_worstOne yX10_worstOne ∈ lw_tbl := List.mem_of_getElem? (i := 53) (by decide +kernel)
theorem ws9_X10_fine : Cond.selects RX10 yX10_fine yX10_fine ∈ lw_tbl := List.mem_of_getElem? (i := 54) (by decide +kernel)
theorem ws9_X10_even : Cond.selects RX10 yX10_even yX10_even ∈ lw_tbl := List.mem_of_getElem? (i := 55) (by decide +kernel)
theorem ws9_X10_hashes : Cond.selects RX10 yX10_hashes yX10_hashes ∈ lw_tbl := List.mem_of_getElem? (i := 56) (by decide +kernel)
theorem ws9_X10_hashesHole : Cond.selects RX10 yX10_hashesHole yX10_hashesHole ∈ lw_tbl := List.mem_of_getElem? (i := 57) (by decide +kernel)
theorem wn_L : Cond.initialized RL ∈ lw_tbl := List.mem_of_getElem? (i := 58) (by decide +kernel)
theorem wn_X9 : Cond.initialized RX9 ∈ lw_tbl := List.mem_of_getElem? (i := 59) (by decide +kernel)
theorem wn_X5 : Cond.initialized RX5 ∈ lw_tbl := List.mem_of_getElem? (i := 60) (by decide +kernel)
theorem wn_X1 : Cond.initialized RX1 ∈ lw_tbl := List.mem_of_getElem? (i := 61) (by decide +kernel)
theorem wn_X3 : Cond.initialized RX3 ∈ lw_tbl := List.mem_of_getElem? (i := 62) (by decide +kernel)
theorem wn_X4 : Cond.initialized RX4 ∈ lw_tbl := List.mem_of_getElem? (i := 63) (by decide +kernel)
theorem wn_X6 : Cond.initialized RX6 ∈ lw_tbl := List.mem_of_getElem? (i := 64) (by decide +kernel)
theorem wn_X7 : Cond.initialized RX7 ∈ lw_tbl := List.mem_of_getElem? (i := 65) (by decide +kernel)
theorem wn_X10 : Cond.initialized RX10 ∈ lw_tbl := List.mem_of_getElem? (i := 66) (by decide +kernel)
theorem wn_java_lang_Throwable : Cond.initialized "java/lang/Throwable" ∈ lw_tbl := List.mem_of_getElem? (i := 67) (by decide +kernel)
theorem wn_java_lang_Exception : Cond.initialized "java/lang/Exception" ∈ lw_tbl := List.mem_of_getElem? (i := 68) (by decide +kernel)
theorem wn_java_lang_RuntimeException : Cond.initialized "java/lang/RuntimeException" ∈ lw_tbl := List.mem_of_getElem? (i := 69) (by decide +kernel)
theorem wn_java_lang_IllegalArgumentException : Cond.initialized "java/lang/IllegalArgumentException" ∈ lw_tbl := List.mem_of_getElem? (i := 70) (by decide +kernel)
theorem wn_X2 : Cond.initialized RX2 ∈ lw_tbl := List.mem_of_getElem? (i := 71) (by decide +kernel)
theorem wn_J9 : Cond.initialized RJ9 ∈ lw_tbl := List.mem_of_getElem? (i := 72) (by decide +kernel)
theorem wn_java_lang_IndexOutOfBoundsException : Cond.initialized "java/lang/IndexOutOfBoundsException" ∈ lw_tbl := List.mem_of_getElem? (i := 73) (by decide +kernel)
theorem wn_X8 : Cond.initialized RX8 ∈ lw_tbl := List.mem_of_getElem? (i := 74) (by decide +kernel)
theorem wn_X0 : Cond.initialized RX0 ∈ lw_tbl := List.mem_of_getElem? (i := 75) (by decide +kernel)
theorem wn_java_lang_IllegalStateException : Cond.initialized "java/lang/IllegalStateException" ∈ lw_tbl := List.mem_of_getElem? (i := 76) (by decide +kernel)
theorem wn_Jxe99ae : Cond.initialized RJxe99ae ∈ lw_tbl := List.mem_of_getElem? (i := 77) (by decide +kernel)
theorem wk_L_8 : Cond.classLink RL 8 RX9 ∈ lw_tbl := List.mem_of_getElem? (i := 78) (by decide +kernel)
theorem wo_X9 : Cond.instantiable RX9 8 ∈ lw_tbl := List.mem_of_getElem? (i := 79) (by decide +kernel)
theorem wl_L_81 : Cond.methodLink RL 81 yX9_init ∈ lw_tbl := List.mem_of_getElem? (i := 80) (by decide +kernel)
theorem wi_X9_init : Cond.instanceMethod yX9_init ∈ lw_tbl := List.mem_of_getElem? (i := 81) (by decide +kernel)
theorem wc_X9_init : Cond.code yX9_init cX9_init 1 (Option.none : Option Jvm.ClassFile.FieldType) ∈ lw_tbl := List.mem_of_getElem? (i := 82) (by decide +kernel)
theorem wl_X9_1 : Cond.methodLink RX9 1 ⟨"java/lang/Object", "<init>", "()V"⟩ ∈ lw_tbl := List.mem_of_getElem? (i := 83) (by decide +kernel)
theorem wk_X9_7 : Cond.classLink RX9 7 RX5 ∈ lw_tbl := List.mem_of_getElem? (i := 86) (by decide +kernel)
theorem wo_X5 : Cond.instantiable RX5 11 ∈ lw_tbl := List.mem_of_getElem? (i := 87) (by decide +kernel)
theorem wl_X9_9 : Cond.methodLink RX9 9 yX5_init ∈ lw_tbl := List.mem_of_getElem? (i := 88) (by decide +kernel)
theorem wi_X5_init : Cond.instanceMethod yX5_init ∈ lw_tbl := List.mem_of_getElem? (i := 89) (by decide +kernel)
theorem wc_X5_init : Cond.code yX5_init cX5_init 2 (Option.none : Option Jvm.ClassFile.FieldType) ∈ lw_tbl := List.mem_of_getElem? (i := 90) (by decide +kernel)
theorem wl_X5_3 : Cond.methodLink RX5 3 ⟨"java/lang/Object", "<init>", "()V"⟩ ∈ lw_tbl := List.mem_of_getElem? (i := 91) (by decide +kernel)
theorem wfN_X5_18 : Cond.fieldLinkNest RX5 18 "DuctRake" "FIRST_VALUES" "[I" "DuctRake" ∈ lw_tbl := List.mem_of_getElem? (i := 92) (by decide +kernel)
theorem wl_X5_22 : Cond.methodLink RX5 22 ⟨"[I", "clone", "()Ljava/lang/Object;"⟩ ∈ lw_tbl := List.mem_of_getElem? (i := 94) (by decide +kernel)
theorem wx_99 : Cond.castable "[I" RJx8e188 ∈ lw_tbl := List.mem_of_getElem? (i := 99) (by decide +kernel)
theorem wk_X5_23 : Cond.classLink RX5 23 "[I" ∈ lw_tbl := List.mem_of_getElem? (i := 100) (by decide +kernel)
theorem wk_X5_42 : Cond.classLink RX5 42 RX1 ∈ lw_tbl := List.mem_of_getElem? (i := 101) (by decide +kernel)
theorem wo_X1 : Cond.instantiable RX1 4 ∈ lw_tbl := List.mem_of_getElem? (i := 102) (by decide +kernel)
theorem wlN_X5_44 : Cond.methodLinkNest RX5 44 yX1_init "DuctRake" ∈ lw_tbl := List.mem_of_getElem? (i := 103) (by decide +kernel)
theorem wi_X1_init : Cond.instanceMethod yX1_init ∈ lw_tbl := List.mem_of_getElem? (i := 104) (by decide +kernel)
theorem wc_X1_init : Cond.code yX1_init cX1_init 1 (Option.none : Option Jvm.ClassFile.FieldType) ∈ lw_tbl := List.mem_of_getElem? (i := 105) (by decide +kernel)
theorem wl_X1_3 : Cond.methodLink RX1 3 ⟨"java/lang/Object", "<init>", "()V"⟩ ∈ lw_tbl := List.mem_of_getElem? (i := 106) (by decide +kernel)
theorem wf_X1_9 : Cond.fieldLink RX1 9 "DuctRake$Readings" "heads" "[I" ∈ lw_tbl := List.mem_of_getElem? (i := 107) (by decide +kernel)
theorem wf_X1_15 : Cond.fieldLink RX1 15 "DuctRake$Readings" "sizes" "[I" ∈ lw_tbl := List.mem_of_getElem? (i := 108) (by decide +kernel)
theorem wf_X9_319 : Cond.fieldLink RX9 319 "DuctRake$Readings" "sizes" "[I" ∈ lw_tbl := List.mem_of_getElem? (i := 109) (by decide +kernel)
theorem wf_X1_18 : Cond.fieldLink RX1 18 "DuctRake$Readings" "radii" "[I" ∈ lw_tbl := List.mem_of_getElem? (i := 110) (by decide +kernel)
theorem wf_X9_322 : Cond.fieldLink RX9 322 "DuctRake$Readings" "radii" "[I" ∈ lw_tbl := List.mem_of_getElem? (i := 111) (by decide +kernel)
theorem wf_X1_27 : Cond.fieldLink RX1 27 "DuctRake$Readings" "kept" "I" ∈ lw_tbl := List.mem_of_getElem? (i := 112) (by decide +kernel)
theorem wf_X7_60 : Cond.fieldLink RX7 60 "DuctRake$Readings" "kept" "I" ∈ lw_tbl := List.mem_of_getElem? (i := 113) (by decide +kernel)
theorem wf_X9_145 : Cond.fieldLink RX9 145 "DuctRake$Readings" "kept" "I" ∈ lw_tbl := List.mem_of_getElem? (i := 114) (by decide +kernel)
theorem wa_int : Cond.arrayClass Jvm.ClassFile.FieldType.int ∈ lw_tbl := List.mem_of_getElem? (i := 124) (by decide +kernel)
theorem wf_X5_9 : Cond.fieldLink RX5 9 "DuctRake$State" "holes" "I" ∈ lw_tbl := List.mem_of_getElem? (i := 125) (by decide +kernel)
theorem wf_X9_69 : Cond.fieldLink RX9 69 "DuctRake$State" "holes" "I" ∈ lw_tbl := List.mem_of_getElem? (i := 126) (by decide +kernel)
theorem wf_X7_38 : Cond.fieldLink RX7 38 "DuctRake$State" "holes" "I" ∈ lw_tbl := List.mem_of_getElem? (i := 127) (by decide +kernel)
theorem wf_X8_41 : Cond.fieldLink RX8 41 "DuctRake$State" "holes" "I" ∈ lw_tbl := List.mem_of_getElem? (i := 128) (by decide +kernel)
theorem wf_X5_15 : Cond.fieldLink RX5 15 "DuctRake$State" "radius" "I" ∈ lw_tbl := List.mem_of_getElem? (i := 129) (by decide +kernel)
theorem wf_X8_19 : Cond.fieldLink RX8 19 "DuctRake$State" "radius" "I" ∈ lw_tbl := List.mem_of_getElem? (i := 130) (by decide +kernel)
theorem wf_X9_79 : Cond.fieldLink RX9 79 "DuctRake$State" "radius" "I" ∈ lw_tbl := List.mem_of_getElem? (i := 131) (by decide +kernel)
theorem wf_X7_45 : Cond.fieldLink RX7 45 "DuctRake$State" "radius" "I" ∈ lw_tbl := List.mem_of_getElem? (i := 132) (by decide +kernel)
theorem wf_X5_27 : Cond.fieldLink RX5 27 "DuctRake$State" "settings" "[I" ∈ lw_tbl := List.mem_of_getElem? (i := 133) (by decide +kernel)
theorem wf_X8_31 : Cond.fieldLink RX8 31 "DuctRake$State" "settings" "[I" ∈ lw_tbl := List.mem_of_getElem? (i := 134) (by decide +kernel)
theorem wf_X7_87 : Cond.fieldLink RX7 87 "DuctRake$State" "settings" "[I" ∈ lw_tbl := List.mem_of_getElem? (i := 135) (by decide +kernel)
theorem wf_X9_121 : Cond.fieldLink RX9 121 "DuctRake$State" "settings" "[I" ∈ lw_tbl := List.mem_of_getElem? (i := 136) (by decide +kernel)
theorem wf_X5_30 : Cond.fieldLink RX5 30 "DuctRake$State" "passes" "[I" ∈ lw_tbl := List.mem_of_getElem? (i := 137) (by decide +kernel)
theorem wf_X9_92 : Cond.fieldLink RX9 92 "DuctRake$State" "passes" "[I" ∈ lw_tbl := List.mem_of_getElem? (i := 138) (by decide +kernel)
theorem wf_X8_48 : Cond.fieldLink RX8 48 "DuctRake$State" "passes" "[I" ∈ lw_tbl := List.mem_of_getElem? (i := 139) (by decide +kernel)
theorem wf_X5_33 : Cond.fieldLink RX5 33 "DuctRake$State" "leaks" "[I" ∈ lw_tbl := List.mem_of_getElem? (i := 140) (by decide +kernel)
theorem wf_X8_51 : Cond.fieldLink RX8 51 "DuctRake$State" "leaks" "[I" ∈ lw_tbl := List.mem_of_getElem? (i := 141) (by decide +kernel)
theorem wf_X9_107 : Cond.fieldLink RX9 107 "DuctRake$State" "leaks" "[I" ∈ lw_tbl := List.mem_of_getElem? (i := 142) (by decide +kernel)
theorem wf_X5_36 : Cond.fieldLink RX5 36 "DuctRake$State" "tests" "[I" ∈ lw_tbl := List.mem_of_getElem? (i := 143) (by decide +kernel)
theorem wf_X7_93 : Cond.fieldLink RX7 93 "DuctRake$State" "tests" "[I" ∈ lw_tbl := List.mem_of_getElem? (i := 144) (by decide +kernel)
theorem wf_X9_124 : Cond.fieldLink RX9 124 "DuctRake$State" "tests" "[I" ∈ lw_tbl := List.mem_of_getElem? (i := 145) (by decide +kernel)
theorem wf_X5_39 : Cond.fieldLink RX5 39 "DuctRake$State" "works" "[I" ∈ lw_tbl := List.mem_of_getElem? (i := 146) (by decide +kernel)
theorem wf_X9_316 : Cond.fieldLink RX9 316 "DuctRake$State" "works" "[I" ∈ lw_tbl := List.mem_of_getElem? (i := 147) (by decide +kernel)
theorem wf_X5_45 : Cond.fieldLink RX5 45 "DuctRake$State" "readings" "LDuctRake$Readings;" ∈ lw_tbl := List.mem_of_getElem? (i := 148) (by decide +kernel)
theorem wf_X7_56 : Cond.fieldLink RX7 56 "DuctRake$State" "readings" "LDuctRake$Readings;" ∈ lw_tbl := List.mem_of_getElem? (i := 149) (by decide +kernel)
theorem wf_X9_141 : Cond.fieldLink RX9 141 "DuctRake$State" "readings" "LDuctRake$Readings;" ∈ lw_tbl := List.mem_of_getElem? (i := 150) (by decide +kernel)
theorem wf_X5_59 : Cond.fieldLink RX5 59 "DuctRake$State" "readingsSoFar" "I" ∈ lw_tbl := List.mem_of_getElem? (i := 151) (by decide +kernel)
theorem wf_X9_344 : Cond.fieldLink RX9 344 "DuctRake$State" "readingsSoFar" "I" ∈ lw_tbl := List.mem_of_getElem? (i := 152) (by decide +kernel)
theorem wf_X5_62 : Cond.fieldLink RX5 62 "DuctRake$State" "workOfReadings" "I" ∈ lw_tbl := List.mem_of_getElem? (i := 153) (by decide +kernel)
theorem wf_X9_335 : Cond.fieldLink RX9 335 "DuctRake$State" "workOfReadings" "I" ∈ lw_tbl := List.mem_of_getElem? (i := 154) (by decide +kernel)
theorem wf_X5_65 : Cond.fieldLink RX5 65 "DuctRake$State" "workOfOldRakes" "I" ∈ lw_tbl := List.mem_of_getElem? (i := 155) (by decide +kernel)
theorem wf_X9_338 : Cond.fieldLink RX9 338 "DuctRake$State" "workOfOldRakes" "I" ∈ lw_tbl := List.mem_of_getElem? (i := 156) (by decide +kernel)
theorem wk_X9_16 : Cond.classLink RX9 16 RX3 ∈ lw_tbl := List.mem_of_getElem? (i := 180) (by decide +kernel)
theorem wo_X3 : Cond.instantiable RX3 3 ∈ lw_tbl := List.mem_of_getElem? (i := 181) (by decide +kernel)
theorem wl_X9_18 : Cond.methodLink RX9 18 yX3_init ∈ lw_tbl := List.mem_of_getElem? (i := 182) (by decide +kernel)
theorem wi_X3_init : Cond.instanceMethod yX3_init ∈ lw_tbl := List.mem_of_getElem? (i := 183) (by decide +kernel)
theorem wc_X3_init : Cond.code yX3_init cX3_init 2 (Option.none : Option Jvm.ClassFile.FieldType) ∈ lw_tbl := List.mem_of_getElem? (i := 184) (by decide +kernel)
theorem wl_X3_3 : Cond.methodLink RX3 3 ⟨"java/lang/Object", "<init>", "()V"⟩ ∈ lw_tbl := List.mem_of_getElem? (i := 185) (by decide +kernel)
theorem wk_X3_9 : Cond.classLink RX3 9 RX5 ∈ lw_tbl := List.mem_of_getElem? (i := 186) (by decide +kernel)
theorem wl_X3_17 : Cond.methodLink RX3 17 yX5_init ∈ lw_tbl := List.mem_of_getElem? (i := 188) (by decide +kernel)
theorem wf_X3_11 : Cond.fieldLink RX3 11 "DuctRake$SavedStates" "ring" "[LDuctRake$State;" ∈ lw_tbl := List.mem_of_getElem? (i := 189) (by decide +kernel)
theorem wf_X3_18 : Cond.fieldLink RX3 18 "DuctRake$SavedStates" "next" "I" ∈ lw_tbl := List.mem_of_getElem? (i := 190) (by decide +kernel)
theorem wf_X3_30 : Cond.fieldLink RX3 30 "DuctRake$SavedStates" "kept" "I" ∈ lw_tbl := List.mem_of_getElem? (i := 191) (by decide +kernel)
theorem wf_X9_216 : Cond.fieldLink RX9 216 "DuctRake$SavedStates" "kept" "I" ∈ lw_tbl := List.mem_of_getElem? (i := 192) (by decide +kernel)
theorem wk_X9_23 : Cond.classLink RX9 23 RX4 ∈ lw_tbl := List.mem_of_getElem? (i := 200) (by decide +kernel)
theorem wo_X4 : Cond.instantiable RX4 2 ∈ lw_tbl := List.mem_of_getElem? (i := 201) (by decide +kernel)
theorem wlN_X9_25 : Cond.methodLinkNest RX9 25 yX4_init "DuctRake" ∈ lw_tbl := List.mem_of_getElem? (i := 202) (by decide +kernel)
theorem wi_X4_init : Cond.instanceMethod yX4_init ∈ lw_tbl := List.mem_of_getElem? (i := 203) (by decide +kernel)
theorem wc_X4_init : Cond.code yX4_init cX4_init 1 (Option.none : Option Jvm.ClassFile.FieldType) ∈ lw_tbl := List.mem_of_getElem? (i := 204) (by decide +kernel)
theorem wl_X4_1 : Cond.methodLink RX4 1 ⟨"java/lang/Object", "<init>", "()V"⟩ ∈ lw_tbl := List.mem_of_getElem? (i := 205) (by decide +kernel)
theorem wk_X4_7 : Cond.classLink RX4 7 RX5 ∈ lw_tbl := List.mem_of_getElem? (i := 206) (by decide +kernel)
theorem wl_X4_9 : Cond.methodLink RX4 9 yX5_init ∈ lw_tbl := List.mem_of_getElem? (i := 207) (by decide +kernel)
theorem wf_X4_10 : Cond.fieldLink RX4 10 "DuctRake$Slot" "snapshot" "LDuctRake$State;" ∈ lw_tbl := List.mem_of_getElem? (i := 208) (by decide +kernel)
theorem wf_X9_204 : Cond.fieldLink RX9 204 "DuctRake$Slot" "snapshot" "LDuctRake$State;" ∈ lw_tbl := List.mem_of_getElem? (i := 209) (by decide +kernel)
theorem wf_X9_210 : Cond.fieldLink RX9 210 "DuctRake$Slot" "filled" "Z" ∈ lw_tbl := List.mem_of_getElem? (i := 210) (by decide +kernel)
theorem wk_X9_33 : Cond.classLink RX9 33 RX6 ∈ lw_tbl := List.mem_of_getElem? (i := 216) (by decide +kernel)
theorem wo_X6 : Cond.instantiable RX6 2 ∈ lw_tbl := List.mem_of_getElem? (i := 217) (by decide +kernel)
theorem wlN_X9_35 : Cond.methodLinkNest RX9 35 yX6_init "DuctRake" ∈ lw_tbl := List.mem_of_getElem? (i := 218) (by decide +kernel)
theorem wi_X6_init : Cond.instanceMethod yX6_init ∈ lw_tbl := List.mem_of_getElem? (i := 219) (by decide +kernel)
theorem wc_X6_init : Cond.code yX6_init cX6_init 1 (Option.none : Option Jvm.ClassFile.FieldType) ∈ lw_tbl := List.mem_of_getElem? (i := 220) (by decide +kernel)
theorem wl_X6_3 : Cond.methodLink RX6 3 ⟨"java/lang/Object", "<init>", "()V"⟩ ∈ lw_tbl := List.mem_of_getElem? (i := 221) (by decide +kernel)
theorem wf_X6_9 : Cond.fieldLink RX6 9 "DuctRake$TextBuffer" "codes" "[I" ∈ lw_tbl := List.mem_of_getElem? (i := 222) (by decide +kernel)
theorem wf_X9_358 : Cond.fieldLink RX9 358 "DuctRake$TextBuffer" "codes" "[I" ∈ lw_tbl := List.mem_of_getElem? (i := 223) (by decide +kernel)
theorem wf_X6_15 : Cond.fieldLink RX6 15 "DuctRake$TextBuffer" "length" "I" ∈ lw_tbl := List.mem_of_getElem? (i := 224) (by decide +kernel)
theorem wf_X9_170 : Cond.fieldLink RX9 170 "DuctRake$TextBuffer" "length" "I" ∈ lw_tbl := List.mem_of_getElem? (i := 225) (by decide +kernel)
theorem wk_X9_40 : Cond.classLink RX9 40 RX7 ∈ lw_tbl := List.mem_of_getElem? (i := 231) (by decide +kernel)
theorem wo_X7 : Cond.instantiable RX7 7 ∈ lw_tbl := List.mem_of_getElem? (i := 232) (by decide +kernel)
theorem wlN_X9_42 : Cond.methodLinkNest RX9 42 yX7_init "DuctRake" ∈ lw_tbl := List.mem_of_getElem? (i := 233) (by decide +kernel)
theorem wi_X7_init : Cond.instanceMethod yX7_init ∈ lw_tbl := List.mem_of_getElem? (i := 234) (by decide +kernel)
theorem wc_X7_init : Cond.code yX7_init cX7_init 1 (Option.none : Option Jvm.ClassFile.FieldType) ∈ lw_tbl := List.mem_of_getElem? (i := 235) (by decide +kernel)
theorem wl_X7_3 : Cond.methodLink RX7 3 ⟨"java/lang/Object", "<init>", "()V"⟩ ∈ lw_tbl := List.mem_of_getElem? (i := 236) (by decide +kernel)
theorem wf_X7_9 : Cond.fieldLink RX7 9 "DuctRake$Told" "means" "[I" ∈ lw_tbl := List.mem_of_getElem? (i := 237) (by decide +kernel)
theorem wf_X9_301 : Cond.fieldLink RX9 301 "DuctRake$Told" "means" "[I" ∈ lw_tbl := List.mem_of_getElem? (i := 238) (by decide +kernel)
theorem wf_X7_15 : Cond.fieldLink RX7 15 "DuctRake$Told" "reasons" "[I" ∈ lw_tbl := List.mem_of_getElem? (i := 239) (by decide +kernel)
theorem wf_X9_304 : Cond.fieldLink RX9 304 "DuctRake$Told" "reasons" "[I" ∈ lw_tbl := List.mem_of_getElem? (i := 240) (by decide +kernel)
theorem wf_X7_18 : Cond.fieldLink RX7 18 "DuctRake$Told" "speeds" "[I" ∈ lw_tbl := List.mem_of_getElem? (i := 241) (by decide +kernel)
theorem wf_X9_310 : Cond.fieldLink RX9 310 "DuctRake$Told" "speeds" "[I" ∈ lw_tbl := List.mem_of_getElem? (i := 242) (by decide +kernel)
theorem wf_X7_44 : Cond.fieldLink RX7 44 "DuctRake$Told" "holes" "I" ∈ lw_tbl := List.mem_of_getElem? (i := 243) (by decide +kernel)
theorem wf_X7_48 : Cond.fieldLink RX7 48 "DuctRake$Told" "radius" "I" ∈ lw_tbl := List.mem_of_getElem? (i := 244) (by decide +kernel)
theorem wf_X7_49 : Cond.fieldLink RX7 49 "DuctRake$Told" "counting" "I" ∈ lw_tbl := List.mem_of_getElem? (i := 245) (by decide +kernel)
theorem wf_X9_298 : Cond.fieldLink RX9 298 "DuctRake$Told" "counting" "I" ∈ lw_tbl := List.mem_of_getElem? (i := 246) (by decide +kernel)
theorem wf_X7_90 : Cond.fieldLink RX7 90 "DuctRake$Told" "trusted" "I" ∈ lw_tbl := List.mem_of_getElem? (i := 247) (by decide +kernel)
theorem wf_X9_307 : Cond.fieldLink RX9 307 "DuctRake$Told" "trusted" "I" ∈ lw_tbl := List.mem_of_getElem? (i := 248) (by decide +kernel)
theorem wf_X9_10 : Cond.fieldLink RX9 10 "DuctRake" "now" "LDuctRake$State;" ∈ lw_tbl := List.mem_of_getElem? (i := 264) (by decide +kernel)
theorem wf_X9_19 : Cond.fieldLink RX9 19 "DuctRake" "saved" "LDuctRake$SavedStates;" ∈ lw_tbl := List.mem_of_getElem? (i := 265) (by decide +kernel)
theorem wf_X9_26 : Cond.fieldLink RX9 26 "DuctRake" "firstSlot" "LDuctRake$Slot;" ∈ lw_tbl := List.mem_of_getElem? (i := 266) (by decide +kernel)
theorem wf_X9_30 : Cond.fieldLink RX9 30 "DuctRake" "secondSlot" "LDuctRake$Slot;" ∈ lw_tbl := List.mem_of_getElem? (i := 267) (by decide +kernel)
theorem wf_X9_36 : Cond.fieldLink RX9 36 "DuctRake" "buffer" "LDuctRake$TextBuffer;" ∈ lw_tbl := List.mem_of_getElem? (i := 268) (by decide +kernel)
theorem wf_X9_43 : Cond.fieldLink RX9 43 "DuctRake" "toldNow" "LDuctRake$Told;" ∈ lw_tbl := List.mem_of_getElem? (i := 269) (by decide +kernel)
theorem wf_X9_47 : Cond.fieldLink RX9 47 "DuctRake" "toldIfRight" "LDuctRake$Told;" ∈ lw_tbl := List.mem_of_getElem? (i := 270) (by decide +kernel)
theorem wf_X9_50 : Cond.fieldLink RX9 50 "DuctRake" "newHeads" "[I" ∈ lw_tbl := List.mem_of_getElem? (i := 271) (by decide +kernel)
theorem wl_L_110 : Cond.methodLink RL 110 yX9_read ∈ lw_tbl := List.mem_of_getElem? (i := 289) (by decide +kernel)
theorem wi_X9_read : Cond.instanceMethod yX9_read ∈ lw_tbl := List.mem_of_getElem? (i := 290) (by decide +kernel)
theorem ws9_X9_read : Cond.selects RX9 yX9_read yX9_read ∈ lw_tbl := List.mem_of_getElem? (i := 291) (by decide +kernel)
theorem wc_X9_read : Cond.code yX9_read cX9_read 2 (Option.some Jvm.ClassFile.FieldType.int) ∈ lw_tbl := List.mem_of_getElem? (i := 292) (by decide +kernel)
theorem wl_X9_65 : Cond.methodLink RX9 65 yX3_push ∈ lw_tbl := List.mem_of_getElem? (i := 293) (by decide +kernel)
theorem wi_X3_push : Cond.instanceMethod yX3_push ∈ lw_tbl := List.mem_of_getElem? (i := 294) (by decide +kernel)
theorem ws9_X3_push : Cond.selects RX3 yX3_push yX3_push ∈ lw_tbl := List.mem_of_getElem? (i := 295) (by decide +kernel)
theorem wc_X3_push : Cond.code yX3_push cX3_push 3 (Option.none : Option Jvm.ClassFile.FieldType) ∈ lw_tbl := List.mem_of_getElem? (i := 296) (by decide +kernel)
theorem wl_X3_22 : Cond.methodLink RX3 22 yX3_stateAt ∈ lw_tbl := List.mem_of_getElem? (i := 297) (by decide +kernel)
theorem wi_X3_stateAt : Cond.instanceMethod yX3_stateAt ∈ lw_tbl := List.mem_of_getElem? (i := 299) (by decide +kernel)
theorem wc_X3_stateAt : Cond.code yX3_stateAt cX3_stateAt 2 (Option.some (Jvm.ClassFile.FieldType.object "DuctRake$State")) ∈ lw_tbl := List.mem_of_getElem? (i := 300) (by decide +kernel)
theorem wl_X3_26 : Cond.methodLink RX3 26 yX5_become ∈ lw_tbl := List.mem_of_getElem? (i := 301) (by decide +kernel)
theorem wi_X5_become : Cond.instanceMethod yX5_become ∈ lw_tbl := List.mem_of_getElem? (i := 302) (by decide +kernel)
theorem ws9_X5_become : Cond.selects RX5 yX5_become yX5_become ∈ lw_tbl := List.mem_of_getElem? (i := 303) (by decide +kernel)
theorem wc_X5_become : Cond.code yX5_become cX5_become 2 (Option.none : Option Jvm.ClassFile.FieldType) ∈ lw_tbl := List.mem_of_getElem? (i := 304) (by decide +kernel)
theorem wl_X5_49 : Cond.methodLink RX5 49 yX2_copy ∈ lw_tbl := List.mem_of_getElem? (i := 305) (by decide +kernel)
theorem wt_X2_copy : Cond.static yX2_copy ∈ lw_tbl := List.mem_of_getElem? (i := 306) (by decide +kernel)
theorem wc_X2_copy : Cond.code yX2_copy cX2_copy 3 (Option.none : Option Jvm.ClassFile.FieldType) ∈ lw_tbl := List.mem_of_getElem? (i := 307) (by decide +kernel)
theorem wl_X5_55 : Cond.methodLink RX5 55 yX1_become ∈ lw_tbl := List.mem_of_getElem? (i := 308) (by decide +kernel)
theorem wi_X1_become : Cond.instanceMethod yX1_become ∈ lw_tbl := List.mem_of_getElem? (i := 309) (by decide +kernel)
theorem ws9_X1_become : Cond.selects RX1 yX1_become yX1_become ∈ lw_tbl := List.mem_of_getElem? (i := 310) (by decide +kernel)
theorem wc_X1_become : Cond.code yX1_become cX1_become 2 (Option.none : Option Jvm.ClassFile.FieldType) ∈ lw_tbl := List.mem_of_getElem? (i := 311) (by decide +kernel)
theorem wl_X1_21 : Cond.methodLink RX1 21 yX2_copy ∈ lw_tbl := List.mem_of_getElem? (i := 312) (by decide +kernel)
theorem wl_X3_33 : Cond.methodLink RX3 33 yJ9_min_7cf53 ∈ lw_tbl := List.mem_of_getElem? (i := 313) (by decide +kernel)
theorem wt_J9_min_7cf53 : Cond.static yJ9_min_7cf53 ∈ lw_tbl := List.mem_of_getElem? (i := 314) (by decide +kernel)
theorem wc_J9_min_7cf53 : Cond.code yJ9_min_7cf53 cJ9_min_7cf53 2 (Option.some Jvm.ClassFile.FieldType.int) ∈ lw_tbl := List.mem_of_getElem? (i := 315) (by decide +kernel)
theorem wl_X9_127 : Cond.methodLink RX9 127 yX8_headAt ∈ lw_tbl := List.mem_of_getElem? (i := 316) (by decide +kernel)
theorem wt_X8_headAt : Cond.static yX8_headAt ∈ lw_tbl := List.mem_of_getElem? (i := 317) (by decide +kernel)
theorem wc_X8_headAt : Cond.code yX8_headAt cX8_headAt 3 (Option.some Jvm.ClassFile.FieldType.int) ∈ lw_tbl := List.mem_of_getElem? (i := 318) (by decide +kernel)
theorem wl_X8_44 : Cond.methodLink RX8 44 yX8_speedAt ∈ lw_tbl := List.mem_of_getElem? (i := 319) (by decide +kernel)
theorem wt_X8_speedAt : Cond.static yX8_speedAt ∈ lw_tbl := List.mem_of_getElem? (i := 320) (by decide +kernel)
theorem wc_X8_speedAt : Cond.code yX8_speedAt cX8_speedAt 7 (Option.some Jvm.ClassFile.FieldType.int) ∈ lw_tbl := List.mem_of_getElem? (i := 321) (by decide +kernel)
theorem wl_X8_25 : Cond.methodLink RX8 25 yX8_distance ∈ lw_tbl := List.mem_of_getElem? (i := 322) (by decide +kernel)
theorem wt_X8_distance : Cond.static yX8_distance ∈ lw_tbl := List.mem_of_getElem? (i := 323) (by decide +kernel)
theorem wc_X8_distance : Cond.code yX8_distance cX8_distance 3 (Option.some Jvm.ClassFile.FieldType.int) ∈ lw_tbl := List.mem_of_getElem? (i := 324) (by decide +kernel)
theorem wl_X8_9 : Cond.methodLink RX8 9 yX0_quotient ∈ lw_tbl := List.mem_of_getElem? (i := 325) (by decide +kernel)
theorem wt_X0_quotient : Cond.static yX0_quotient ∈ lw_tbl := List.mem_of_getElem? (i := 326) (by decide +kernel)
theorem wc_X0_quotient : Cond.code yX0_quotient cX0_quotient 2 (Option.some Jvm.ClassFile.FieldType.int) ∈ lw_tbl := List.mem_of_getElem? (i := 327) (by decide +kernel)
theorem wl_X8_15 : Cond.methodLink RX8 15 yX0_wholeRoot ∈ lw_tbl := List.mem_of_getElem? (i := 328) (by decide +kernel)
theorem wt_X0_wholeRoot : Cond.static yX0_wholeRoot ∈ lw_tbl := List.mem_of_getElem? (i := 329) (by decide +kernel)
theorem wc_X0_wholeRoot : Cond.code yX0_wholeRoot cX0_wholeRoot 6 (Option.some Jvm.ClassFile.FieldType.int) ∈ lw_tbl := List.mem_of_getElem? (i := 330) (by decide +kernel)
theorem wl_X8_35 : Cond.methodLink RX8 35 yX2_at ∈ lw_tbl := List.mem_of_getElem? (i := 331) (by decide +kernel)
theorem wt_X2_at : Cond.static yX2_at ∈ lw_tbl := List.mem_of_getElem? (i := 332) (by decide +kernel)
theorem wc_X2_at : Cond.code yX2_at cX2_at 2 (Option.some Jvm.ClassFile.FieldType.int) ∈ lw_tbl := List.mem_of_getElem? (i := 333) (by decide +kernel)
theorem wl_X9_133 : Cond.methodLink RX9 133 yX8_feltAt ∈ lw_tbl := List.mem_of_getElem? (i := 334) (by decide +kernel)
theorem wt_X8_feltAt : Cond.static yX8_feltAt ∈ lw_tbl := List.mem_of_getElem? (i := 335) (by decide +kernel)
theorem wc_X8_feltAt : Cond.code yX8_feltAt cX8_feltAt 4 (Option.some Jvm.ClassFile.FieldType.int) ∈ lw_tbl := List.mem_of_getElem? (i := 336) (by decide +kernel)
theorem wl_X9_101 : Cond.methodLink RX9 101 yX2_put ∈ lw_tbl := List.mem_of_getElem? (i := 337) (by decide +kernel)
theorem wt_X2_put : Cond.static yX2_put ∈ lw_tbl := List.mem_of_getElem? (i := 338) (by decide +kernel)
theorem wc_X2_put : Cond.code yX2_put cX2_put 3 (Option.none : Option Jvm.ClassFile.FieldType) ∈ lw_tbl := List.mem_of_getElem? (i := 339) (by decide +kernel)
theorem wl_X9_137 : Cond.methodLink RX9 137 yX5_takeReading ∈ lw_tbl := List.mem_of_getElem? (i := 340) (by decide +kernel)
theorem wi_X5_takeReading : Cond.instanceMethod yX5_takeReading ∈ lw_tbl := List.mem_of_getElem? (i := 341) (by decide +kernel)
theorem ws9_X5_takeReading : Cond.selects RX5 yX5_takeReading yX5_takeReading ∈ lw_tbl := List.mem_of_getElem? (i := 342) (by decide +kernel)
theorem wc_X5_takeReading : Cond.code yX5_takeReading cX5_takeReading 3 (Option.none : Option Jvm.ClassFile.FieldType) ∈ lw_tbl := List.mem_of_getElem? (i := 343) (by decide +kernel)
theorem wl_X5_84 : Cond.methodLink RX5 84 yX1_add ∈ lw_tbl := List.mem_of_getElem? (i := 344) (by decide +kernel)
theorem wi_X1_add : Cond.instanceMethod yX1_add ∈ lw_tbl := List.mem_of_getElem? (i := 345) (by decide +kernel)
theorem ws9_X1_add : Cond.selects RX1 yX1_add yX1_add ∈ lw_tbl := List.mem_of_getElem? (i := 346) (by decide +kernel)
theorem wc_X1_add : Cond.code yX1_add cX1_add 5 (Option.none : Option Jvm.ClassFile.FieldType) ∈ lw_tbl := List.mem_of_getElem? (i := 347) (by decide +kernel)
theorem wl_X1_35 : Cond.methodLink RX1 35 yX1_remove ∈ lw_tbl := List.mem_of_getElem? (i := 348) (by decide +kernel)
theorem wi_X1_remove : Cond.instanceMethod yX1_remove ∈ lw_tbl := List.mem_of_getElem? (i := 349) (by decide +kernel)
theorem ws9_X1_remove : Cond.selects RX1 yX1_remove yX1_remove ∈ lw_tbl := List.mem_of_getElem? (i := 350) (by decide +kernel)
theorem wc_X1_remove : Cond.code yX1_remove cX1_remove 4 (Option.none : Option Jvm.ClassFile.FieldType) ∈ lw_tbl := List.mem_of_getElem? (i := 351) (by decide +kernel)
theorem wl_X1_43 : Cond.methodLink RX1 43 yX1_headOf ∈ lw_tbl := List.mem_of_getElem? (i := 352) (by decide +kernel)
theorem wi_X1_headOf : Cond.instanceMethod yX1_headOf ∈ lw_tbl := List.mem_of_getElem? (i := 353) (by decide +kernel)
theorem ws9_X1_headOf : Cond.selects RX1 yX1_headOf yX1_headOf ∈ lw_tbl := List.mem_of_getElem? (i := 354) (by decide +kernel)
theorem wc_X1_headOf : Cond.code yX1_headOf cX1_headOf 3 (Option.some Jvm.ClassFile.FieldType.int) ∈ lw_tbl := List.mem_of_getElem? (i := 355) (by decide +kernel)
theorem wl_X1_31 : Cond.methodLink RX1 31 yX2_at ∈ lw_tbl := List.mem_of_getElem? (i := 356) (by decide +kernel)
theorem wl_X1_39 : Cond.methodLink RX1 39 yX2_put ∈ lw_tbl := List.mem_of_getElem? (i := 357) (by decide +kernel)
theorem wl_L_123 : Cond.methodLink RL 123 yX9_clearBuffer ∈ lw_tbl := List.mem_of_getElem? (i := 358) (by decide +kernel)
theorem wi_X9_clearBuffer : Cond.instanceMethod yX9_clearBuffer ∈ lw_tbl := List.mem_of_getElem? (i := 359) (by decide +kernel)
theorem ws9_X9_clearBuffer : Cond.selects RX9 yX9_clearBuffer yX9_clearBuffer ∈ lw_tbl := List.mem_of_getElem? (i := 360) (by decide +kernel)
theorem wc_X9_clearBuffer : Cond.code yX9_clearBuffer cX9_clearBuffer 2 (Option.some Jvm.ClassFile.FieldType.int) ∈ lw_tbl := List.mem_of_getElem? (i := 361) (by decide +kernel)
theorem wl_L_127 : Cond.methodLink RL 127 yX9_firstError ∈ lw_tbl := List.mem_of_getElem? (i := 362) (by decide +kernel)
theorem wi_X9_firstError : Cond.instanceMethod yX9_firstError ∈ lw_tbl := List.mem_of_getElem? (i := 363) (by decide +kernel)
theorem ws9_X9_firstError : Cond.selects RX9 yX9_firstError yX9_firstError ∈ lw_tbl := List.mem_of_getElem? (i := 364) (by decide +kernel)
theorem wc_X9_firstError : Cond.code yX9_firstError cX9_firstError 1 (Option.some Jvm.ClassFile.FieldType.int) ∈ lw_tbl := List.mem_of_getElem? (i := 365) (by decide +kernel)
theorem wl_X9_181 : Cond.methodLink RX9 181 yX6_firstWrong ∈ lw_tbl := List.mem_of_getElem? (i := 366) (by decide +kernel)
theorem wi_X6_firstWrong : Cond.instanceMethod yX6_firstWrong ∈ lw_tbl := List.mem_of_getElem? (i := 367) (by decide +kernel)
theorem ws9_X6_firstWrong : Cond.selects RX6 yX6_firstWrong yX6_firstWrong ∈ lw_tbl := List.mem_of_getElem? (i := 368) (by decide +kernel)
theorem wc_X6_firstWrong : Cond.code yX6_firstWrong cX6_firstWrong 6 (Option.some Jvm.ClassFile.FieldType.int) ∈ lw_tbl := List.mem_of_getElem? (i := 369) (by decide +kernel)
theorem wl_X6_25 : Cond.methodLink RX6 25 yX2_at ∈ lw_tbl := List.mem_of_getElem? (i := 370) (by decide +kernel)
theorem wl_X6_29 : Cond.methodLink RX6 29 yX6_isDigit ∈ lw_tbl := List.mem_of_getElem? (i := 371) (by decide +kernel)
theorem wt_X6_isDigit : Cond.static yX6_isDigit ∈ lw_tbl := List.mem_of_getElem? (i := 372) (by decide +kernel)
theorem wc_X6_isDigit : Cond.code yX6_isDigit cX6_isDigit 1 (Option.some Jvm.ClassFile.FieldType.boolean) ∈ lw_tbl := List.mem_of_getElem? (i := 373) (by decide +kernel)
theorem wl_L_162 : Cond.methodLink RL 162 yX9_worst ∈ lw_tbl := List.mem_of_getElem? (i := 374) (by decide +kernel)
theorem wi_X9_worst : Cond.instanceMethod yX9_worst ∈ lw_tbl := List.mem_of_getElem? (i := 375) (by decide +kernel)
theorem ws9_X9_worst : Cond.selects RX9 yX9_worst yX9_worst ∈ lw_tbl := List.mem_of_getElem? (i := 376) (by decide +kernel)
theorem wc_X9_worst : Cond.code yX9_worst cX9_worst 1 (Option.some Jvm.ClassFile.FieldType.int) ∈ lw_tbl := List.mem_of_getElem? (i := 377) (by decide +kernel)
theorem wl_X9_224 : Cond.methodLink RX9 224 yX7_judge ∈ lw_tbl := List.mem_of_getElem? (i := 378) (by decide +kernel)
theorem wi_X7_judge : Cond.instanceMethod yX7_judge ∈ lw_tbl := List.mem_of_getElem? (i := 379) (by decide +kernel)
theorem ws9_X7_judge : Cond.selects RX7 yX7_judge yX7_judge ∈ lw_tbl := List.mem_of_getElem? (i := 380) (by decide +kernel)
theorem wc_X7_judge : Cond.code yX7_judge cX7_judge 2 (Option.none : Option Jvm.ClassFile.FieldType) ∈ lw_tbl := List.mem_of_getElem? (i := 381) (by decide +kernel)
theorem wl_X7_21 : Cond.methodLink RX7 21 yX7_takeMeans ∈ lw_tbl := List.mem_of_getElem? (i := 382) (by decide +kernel)
theorem wi_X7_takeMeans : Cond.instanceMethod yX7_takeMeans ∈ lw_tbl := List.mem_of_getElem? (i := 384) (by decide +kernel)
theorem wc_X7_takeMeans : Cond.code yX7_takeMeans cX7_takeMeans 5 (Option.none : Option Jvm.ClassFile.FieldType) ∈ lw_tbl := List.mem_of_getElem? (i := 385) (by decide +kernel)
theorem wl_X7_52 : Cond.methodLink RX7 52 yX2_clear ∈ lw_tbl := List.mem_of_getElem? (i := 386) (by decide +kernel)
theorem wt_X2_clear : Cond.static yX2_clear ∈ lw_tbl := List.mem_of_getElem? (i := 387) (by decide +kernel)
theorem wc_X2_clear : Cond.code yX2_clear cX2_clear 2 (Option.none : Option Jvm.ClassFile.FieldType) ∈ lw_tbl := List.mem_of_getElem? (i := 388) (by decide +kernel)
theorem wl_X7_65 : Cond.methodLink RX7 65 yX1_isCounting ∈ lw_tbl := List.mem_of_getElem? (i := 389) (by decide +kernel)
theorem wi_X1_isCounting : Cond.instanceMethod yX1_isCounting ∈ lw_tbl := List.mem_of_getElem? (i := 390) (by decide +kernel)
theorem ws9_X1_isCounting : Cond.selects RX1 yX1_isCounting yX1_isCounting ∈ lw_tbl := List.mem_of_getElem? (i := 391) (by decide +kernel)
theorem wc_X1_isCounting : Cond.code yX1_isCounting cX1_isCounting 4 (Option.some Jvm.ClassFile.FieldType.boolean) ∈ lw_tbl := List.mem_of_getElem? (i := 392) (by decide +kernel)
theorem wl_X7_69 : Cond.methodLink RX7 69 yX2_at ∈ lw_tbl := List.mem_of_getElem? (i := 393) (by decide +kernel)
theorem wl_X7_73 : Cond.methodLink RX7 73 yX1_headOf ∈ lw_tbl := List.mem_of_getElem? (i := 394) (by decide +kernel)
theorem wl_X7_32 : Cond.methodLink RX7 32 yX2_put ∈ lw_tbl := List.mem_of_getElem? (i := 395) (by decide +kernel)
theorem wl_X7_77 : Cond.methodLink RX7 77 yX0_quotient ∈ lw_tbl := List.mem_of_getElem? (i := 396) (by decide +kernel)
theorem wl_X7_25 : Cond.methodLink RX7 25 yX7_giveReasons ∈ lw_tbl := List.mem_of_getElem? (i := 397) (by decide +kernel)
theorem wi_X7_giveReasons : Cond.instanceMethod yX7_giveReasons ∈ lw_tbl := List.mem_of_getElem? (i := 399) (by decide +kernel)
theorem wc_X7_giveReasons : Cond.code yX7_giveReasons cX7_giveReasons 8 (Option.none : Option Jvm.ClassFile.FieldType) ∈ lw_tbl := List.mem_of_getElem? (i := 400) (by decide +kernel)
theorem wl_X7_82 : Cond.methodLink RX7 82 yJ9_max_7cf53 ∈ lw_tbl := List.mem_of_getElem? (i := 401) (by decide +kernel)
theorem wt_J9_max_7cf53 : Cond.static yJ9_max_7cf53 ∈ lw_tbl := List.mem_of_getElem? (i := 402) (by decide +kernel)
theorem wc_J9_max_7cf53 : Cond.code yJ9_max_7cf53 cJ9_max_7cf53 2 (Option.some Jvm.ClassFile.FieldType.int) ∈ lw_tbl := List.mem_of_getElem? (i := 403) (by decide +kernel)
theorem wl_X7_96 : Cond.methodLink RX7 96 yX7_reasonFor ∈ lw_tbl := List.mem_of_getElem? (i := 404) (by decide +kernel)
theorem wi_X7_reasonFor : Cond.instanceMethod yX7_reasonFor ∈ lw_tbl := List.mem_of_getElem? (i := 406) (by decide +kernel)
theorem wc_X7_reasonFor : Cond.code yX7_reasonFor cX7_reasonFor 4 (Option.some Jvm.ClassFile.FieldType.int) ∈ lw_tbl := List.mem_of_getElem? (i := 407) (by decide +kernel)
theorem wl_X7_29 : Cond.methodLink RX7 29 yX7_tellSpeeds ∈ lw_tbl := List.mem_of_getElem? (i := 408) (by decide +kernel)
theorem wi_X7_tellSpeeds : Cond.instanceMethod yX7_tellSpeeds ∈ lw_tbl := List.mem_of_getElem? (i := 410) (by decide +kernel)
theorem wc_X7_tellSpeeds : Cond.code yX7_tellSpeeds cX7_tellSpeeds 4 (Option.none : Option Jvm.ClassFile.FieldType) ∈ lw_tbl := List.mem_of_getElem? (i := 411) (by decide +kernel)
theorem wl_X7_100 : Cond.methodLink RX7 100 yX0_wholeRoot ∈ lw_tbl := List.mem_of_getElem? (i := 412) (by decide +kernel)
theorem wl_X7_104 : Cond.methodLink RX7 104 yX7_mended ∈ lw_tbl := List.mem_of_getElem? (i := 413) (by decide +kernel)
theorem wt_X7_mended : Cond.static yX7_mended ∈ lw_tbl := List.mem_of_getElem? (i := 414) (by decide +kernel)
end
section
theorem wc_X7_mended : Cond.code yX7_mended cX7_mended 2 (Option.some Jvm.ClassFile.FieldType.int) ∈ lw_tbl := List.mem_of_getElem? (i := 415) (by decide +kernel)
theorem wl_X9_251 : Cond.methodLink RX9 251 yX9_worstHole ∈ lw_tbl := List.mem_of_getElem? (i := 416) (by decide +kernel)
theorem wi_X9_worstHole : Cond.instanceMethod yX9_worstHole ∈ lw_tbl := List.mem_of_getElem? (i := 418) (by decide +kernel)
theorem wc_X9_worstHole : Cond.code yX9_worstHole cX9_worstHole 8 (Option.some Jvm.ClassFile.FieldType.int) ∈ lw_tbl := List.mem_of_getElem? (i := 419) (by decide +kernel)
theorem wl_X9_313 : Cond.methodLink RX9 313 yX7_flowOfRings ∈ lw_tbl := List.mem_of_getElem? (i := 420) (by decide +kernel)
theorem wi_X7_flowOfRings : Cond.instanceMethod yX7_flowOfRings ∈ lw_tbl := List.mem_of_getElem? (i := 421) (by decide +kernel)
theorem ws9_X7_flowOfRings : Cond.selects RX7 yX7_flowOfRings yX7_flowOfRings ∈ lw_tbl := List.mem_of_getElem? (i := 422) (by decide +kernel)
theorem wc_X7_flowOfRings : Cond.code yX7_flowOfRings cX7_flowOfRings 5 (Option.some Jvm.ClassFile.FieldType.int) ∈ lw_tbl := List.mem_of_getElem? (i := 423) (by decide +kernel)
theorem wl_X7_107 : Cond.methodLink RX7 107 yX8_flowOfRing ∈ lw_tbl := List.mem_of_getElem? (i := 424) (by decide +kernel)
theorem wt_X8_flowOfRing : Cond.static yX8_flowOfRing ∈ lw_tbl := List.mem_of_getElem? (i := 425) (by decide +kernel)
theorem wc_X8_flowOfRing : Cond.code yX8_flowOfRing cX8_flowOfRing 3 (Option.some Jvm.ClassFile.FieldType.int) ∈ lw_tbl := List.mem_of_getElem? (i := 426) (by decide +kernel)
theorem wl_X9_248 : Cond.methodLink RX9 248 yX9_wholeIfRight ∈ lw_tbl := List.mem_of_getElem? (i := 427) (by decide +kernel)
theorem wi_X9_wholeIfRight : Cond.instanceMethod yX9_wholeIfRight ∈ lw_tbl := List.mem_of_getElem? (i := 429) (by decide +kernel)
theorem wc_X9_wholeIfRight : Cond.code yX9_wholeIfRight cX9_wholeIfRight 2 (Option.some Jvm.ClassFile.FieldType.int) ∈ lw_tbl := List.mem_of_getElem? (i := 430) (by decide +kernel)
theorem wl_X9_347 : Cond.methodLink RX9 347 yX7_judgeIfRight ∈ lw_tbl := List.mem_of_getElem? (i := 431) (by decide +kernel)
theorem wi_X7_judgeIfRight : Cond.instanceMethod yX7_judgeIfRight ∈ lw_tbl := List.mem_of_getElem? (i := 432) (by decide +kernel)
theorem ws9_X7_judgeIfRight : Cond.selects RX7 yX7_judgeIfRight yX7_judgeIfRight ∈ lw_tbl := List.mem_of_getElem? (i := 433) (by decide +kernel)
theorem wc_X7_judgeIfRight : Cond.code yX7_judgeIfRight cX7_judgeIfRight 4 (Option.none : Option Jvm.ClassFile.FieldType) ∈ lw_tbl := List.mem_of_getElem? (i := 434) (by decide +kernel)
theorem wl_X9_351 : Cond.methodLink RX9 351 yJ9_abs_0f7a4 ∈ lw_tbl := List.mem_of_getElem? (i := 435) (by decide +kernel)
theorem wt_J9_abs_0f7a4 : Cond.static yJ9_abs_0f7a4 ∈ lw_tbl := List.mem_of_getElem? (i := 436) (by decide +kernel)
theorem wc_J9_abs_0f7a4 : Cond.code yJ9_abs_0f7a4 cJ9_abs_0f7a4 1 (Option.some Jvm.ClassFile.FieldType.int) ∈ lw_tbl := List.mem_of_getElem? (i := 437) (by decide +kernel)
theorem wl_L_172 : Cond.methodLink RL 172 yX9_evenness ∈ lw_tbl := List.mem_of_getElem? (i := 438) (by decide +kernel)
theorem wi_X9_evenness : Cond.instanceMethod yX9_evenness ∈ lw_tbl := List.mem_of_getElem? (i := 439) (by decide +kernel)
theorem ws9_X9_evenness : Cond.selects RX9 yX9_evenness yX9_evenness ∈ lw_tbl := List.mem_of_getElem? (i := 440) (by decide +kernel)
theorem wc_X9_evenness : Cond.code yX9_evenness cX9_evenness 1 (Option.some Jvm.ClassFile.FieldType.double) ∈ lw_tbl := List.mem_of_getElem? (i := 441) (by decide +kernel)
theorem wl_X9_264 : Cond.methodLink RX9 264 yX7_leastByGreatest ∈ lw_tbl := List.mem_of_getElem? (i := 442) (by decide +kernel)
theorem wi_X7_leastByGreatest : Cond.instanceMethod yX7_leastByGreatest ∈ lw_tbl := List.mem_of_getElem? (i := 443) (by decide +kernel)
theorem ws9_X7_leastByGreatest : Cond.selects RX7 yX7_leastByGreatest yX7_leastByGreatest ∈ lw_tbl := List.mem_of_getElem? (i := 444) (by decide +kernel)
theorem wc_X7_leastByGreatest : Cond.code yX7_leastByGreatest cX7_leastByGreatest 4 (Option.some Jvm.ClassFile.FieldType.double) ∈ lw_tbl := List.mem_of_getElem? (i := 445) (by decide +kernel)
theorem wl_X7_113 : Cond.methodLink RX7 113 yJ9_min_7cf53 ∈ lw_tbl := List.mem_of_getElem? (i := 446) (by decide +kernel)
theorem wl_L_177 : Cond.methodLink RL 177 yX9_digest ∈ lw_tbl := List.mem_of_getElem? (i := 447) (by decide +kernel)
theorem wi_X9_digest : Cond.instanceMethod yX9_digest ∈ lw_tbl := List.mem_of_getElem? (i := 448) (by decide +kernel)
theorem ws9_X9_digest : Cond.selects RX9 yX9_digest yX9_digest ∈ lw_tbl := List.mem_of_getElem? (i := 449) (by decide +kernel)
theorem wc_X9_digest : Cond.code yX9_digest cX9_digest 4 (Option.some Jvm.ClassFile.FieldType.long) ∈ lw_tbl := List.mem_of_getElem? (i := 450) (by decide +kernel)
theorem wq_X9_268 : Cond.constantLong RX9 268 (3167) ∈ lw_tbl := List.mem_of_getElem? (i := 451) (by decide +kernel)
theorem wl_X9_245 : Cond.methodLink RX9 245 yX9_countValue ∈ lw_tbl := List.mem_of_getElem? (i := 452) (by decide +kernel)
theorem wi_X9_countValue : Cond.instanceMethod yX9_countValue ∈ lw_tbl := List.mem_of_getElem? (i := 454) (by decide +kernel)
theorem wc_X9_countValue : Cond.code yX9_countValue cX9_countValue 3 (Option.some Jvm.ClassFile.FieldType.int) ∈ lw_tbl := List.mem_of_getElem? (i := 455) (by decide +kernel)
theorem wl_X9_332 : Cond.methodLink RX9 332 yX7_countOfReason ∈ lw_tbl := List.mem_of_getElem? (i := 456) (by decide +kernel)
theorem wi_X7_countOfReason : Cond.instanceMethod yX7_countOfReason ∈ lw_tbl := List.mem_of_getElem? (i := 457) (by decide +kernel)
theorem ws9_X7_countOfReason : Cond.selects RX7 yX7_countOfReason yX7_countOfReason ∈ lw_tbl := List.mem_of_getElem? (i := 458) (by decide +kernel)
theorem wc_X7_countOfReason : Cond.code yX7_countOfReason cX7_countOfReason 4 (Option.some Jvm.ClassFile.FieldType.int) ∈ lw_tbl := List.mem_of_getElem? (i := 459) (by decide +kernel)
theorem wl_X9_341 : Cond.methodLink RX9 341 yX5_workOfHoles ∈ lw_tbl := List.mem_of_getElem? (i := 460) (by decide +kernel)
theorem wi_X5_workOfHoles : Cond.instanceMethod yX5_workOfHoles ∈ lw_tbl := List.mem_of_getElem? (i := 461) (by decide +kernel)
theorem ws9_X5_workOfHoles : Cond.selects RX5 yX5_workOfHoles yX5_workOfHoles ∈ lw_tbl := List.mem_of_getElem? (i := 462) (by decide +kernel)
theorem wc_X5_workOfHoles : Cond.code yX5_workOfHoles cX5_workOfHoles 3 (Option.some Jvm.ClassFile.FieldType.int) ∈ lw_tbl := List.mem_of_getElem? (i := 463) (by decide +kernel)
theorem wl_X5_80 : Cond.methodLink RX5 80 yX2_at ∈ lw_tbl := List.mem_of_getElem? (i := 464) (by decide +kernel)
theorem wl_X9_270 : Cond.methodLink RX9 270 yX9_mixed ∈ lw_tbl := List.mem_of_getElem? (i := 465) (by decide +kernel)
theorem wt_X9_mixed : Cond.static yX9_mixed ∈ lw_tbl := List.mem_of_getElem? (i := 466) (by decide +kernel)
theorem wc_X9_mixed : Cond.code yX9_mixed cX9_mixed 4 (Option.some Jvm.ClassFile.FieldType.long) ∈ lw_tbl := List.mem_of_getElem? (i := 467) (by decide +kernel)
theorem wq_X9_356 : Cond.constantLong RX9 356 (31) ∈ lw_tbl := List.mem_of_getElem? (i := 468) (by decide +kernel)
theorem wl_X9_95 : Cond.methodLink RX9 95 yX2_at ∈ lw_tbl := List.mem_of_getElem? (i := 469) (by decide +kernel)
theorem wl_X9_274 : Cond.methodLink RX9 274 yX9_mixedWithHoles ∈ lw_tbl := List.mem_of_getElem? (i := 470) (by decide +kernel)
theorem wi_X9_mixedWithHoles : Cond.instanceMethod yX9_mixedWithHoles ∈ lw_tbl := List.mem_of_getElem? (i := 472) (by decide +kernel)
theorem wc_X9_mixedWithHoles : Cond.code yX9_mixedWithHoles cX9_mixedWithHoles 8 (Option.some Jvm.ClassFile.FieldType.long) ∈ lw_tbl := List.mem_of_getElem? (i := 473) (by decide +kernel)
theorem wl_X9_227 : Cond.methodLink RX9 227 yX9_holeValue ∈ lw_tbl := List.mem_of_getElem? (i := 474) (by decide +kernel)
theorem wi_X9_holeValue : Cond.instanceMethod yX9_holeValue ∈ lw_tbl := List.mem_of_getElem? (i := 476) (by decide +kernel)
theorem wc_X9_holeValue : Cond.code yX9_holeValue cX9_holeValue 4 (Option.some Jvm.ClassFile.FieldType.int) ∈ lw_tbl := List.mem_of_getElem? (i := 477) (by decide +kernel)
theorem wl_X9_291 : Cond.methodLink RX9 291 yX8_distance ∈ lw_tbl := List.mem_of_getElem? (i := 478) (by decide +kernel)
theorem wl_X9_295 : Cond.methodLink RX9 295 yX8_speedAt ∈ lw_tbl := List.mem_of_getElem? (i := 479) (by decide +kernel)
theorem wl_X9_278 : Cond.methodLink RX9 278 yX9_mixedWithReadings ∈ lw_tbl := List.mem_of_getElem? (i := 480) (by decide +kernel)
theorem wi_X9_mixedWithReadings : Cond.instanceMethod yX9_mixedWithReadings ∈ lw_tbl := List.mem_of_getElem? (i := 482) (by decide +kernel)
theorem wc_X9_mixedWithReadings : Cond.code yX9_mixedWithReadings cX9_mixedWithReadings 7 (Option.some Jvm.ClassFile.FieldType.long) ∈ lw_tbl := List.mem_of_getElem? (i := 483) (by decide +kernel)
theorem wl_X9_233 : Cond.methodLink RX9 233 yX9_readingValue ∈ lw_tbl := List.mem_of_getElem? (i := 484) (by decide +kernel)
theorem wi_X9_readingValue : Cond.instanceMethod yX9_readingValue ∈ lw_tbl := List.mem_of_getElem? (i := 486) (by decide +kernel)
theorem wc_X9_readingValue : Cond.code yX9_readingValue cX9_readingValue 4 (Option.some Jvm.ClassFile.FieldType.int) ∈ lw_tbl := List.mem_of_getElem? (i := 487) (by decide +kernel)
theorem wl_X9_325 : Cond.methodLink RX9 325 yX1_isCounting ∈ lw_tbl := List.mem_of_getElem? (i := 488) (by decide +kernel)
theorem wl_X9_329 : Cond.methodLink RX9 329 yX1_headOf ∈ lw_tbl := List.mem_of_getElem? (i := 489) (by decide +kernel)
theorem wl_X9_239 : Cond.methodLink RX9 239 yX9_flowValue ∈ lw_tbl := List.mem_of_getElem? (i := 490) (by decide +kernel)
theorem wi_X9_flowValue : Cond.instanceMethod yX9_flowValue ∈ lw_tbl := List.mem_of_getElem? (i := 492) (by decide +kernel)
theorem wc_X9_flowValue : Cond.code yX9_flowValue cX9_flowValue 4 (Option.some Jvm.ClassFile.FieldType.int) ∈ lw_tbl := List.mem_of_getElem? (i := 493) (by decide +kernel)
theorem wl_X9_255 : Cond.methodLink RX9 255 yX8_whole ∈ lw_tbl := List.mem_of_getElem? (i := 494) (by decide +kernel)
theorem wt_X8_whole : Cond.static yX8_whole ∈ lw_tbl := List.mem_of_getElem? (i := 495) (by decide +kernel)
theorem wc_X8_whole : Cond.code yX8_whole cX8_whole 4 (Option.some Jvm.ClassFile.FieldType.int) ∈ lw_tbl := List.mem_of_getElem? (i := 496) (by decide +kernel)
theorem wl_X8_54 : Cond.methodLink RX8 54 yX8_flowOfRing ∈ lw_tbl := List.mem_of_getElem? (i := 497) (by decide +kernel)
theorem wl_X9_261 : Cond.methodLink RX9 261 yX9_fewestHoles ∈ lw_tbl := List.mem_of_getElem? (i := 498) (by decide +kernel)
theorem wi_X9_fewestHoles : Cond.instanceMethod yX9_fewestHoles ∈ lw_tbl := List.mem_of_getElem? (i := 500) (by decide +kernel)
theorem wc_X9_fewestHoles : Cond.code yX9_fewestHoles cX9_fewestHoles 4 (Option.some Jvm.ClassFile.FieldType.int) ∈ lw_tbl := List.mem_of_getElem? (i := 501) (by decide +kernel)
theorem wl_X9_282 : Cond.methodLink RX9 282 yX0_bitsOfShare ∈ lw_tbl := List.mem_of_getElem? (i := 502) (by decide +kernel)
theorem wt_X0_bitsOfShare : Cond.static yX0_bitsOfShare ∈ lw_tbl := List.mem_of_getElem? (i := 503) (by decide +kernel)
theorem wc_X0_bitsOfShare : Cond.code yX0_bitsOfShare cX0_bitsOfShare 8 (Option.some Jvm.ClassFile.FieldType.long) ∈ lw_tbl := List.mem_of_getElem? (i := 504) (by decide +kernel)
theorem wq_X0_7 : Cond.constantLong RX0 7 (1023) ∈ lw_tbl := List.mem_of_getElem? (i := 505) (by decide +kernel)
theorem wq_X0_9 : Cond.constantDouble RX0 9 (4611686018427387904) ∈ lw_tbl := List.mem_of_getElem? (i := 506) (by decide +kernel)
theorem wq_X0_11 : Cond.constantDouble RX0 11 (4841369599423283200) ∈ lw_tbl := List.mem_of_getElem? (i := 507) (by decide +kernel)
theorem wl_X9_288 : Cond.methodLink RX9 288 yX9_mixedWithBuffer ∈ lw_tbl := List.mem_of_getElem? (i := 508) (by decide +kernel)
theorem wi_X9_mixedWithBuffer : Cond.instanceMethod yX9_mixedWithBuffer ∈ lw_tbl := List.mem_of_getElem? (i := 510) (by decide +kernel)
theorem wc_X9_mixedWithBuffer : Cond.code yX9_mixedWithBuffer cX9_mixedWithBuffer 6 (Option.some Jvm.ClassFile.FieldType.long) ∈ lw_tbl := List.mem_of_getElem? (i := 511) (by decide +kernel)
theorem wl_L_85 : Cond.methodLink RL 85 yL_rake ∈ lw_tbl := List.mem_of_getElem? (i := 512) (by decide +kernel)
theorem wt_L_rake : Cond.static yL_rake ∈ lw_tbl := List.mem_of_getElem? (i := 513) (by decide +kernel)
theorem wc_L_rake : Cond.codeWith yL_rake cL_rake 4 (Option.some Jvm.ClassFile.FieldType.int) [((0 : Nat), (9 : Nat), (12 : Nat), (13 : Nat))] ∈ lw_tbl := List.mem_of_getElem? (i := 514) (by decide +kernel)
theorem wk_L_13 : Cond.classLink RL 13 "java/lang/IllegalArgumentException" ∈ lw_tbl := List.mem_of_getElem? (i := 515) (by decide +kernel)
theorem wl_L_7 : Cond.methodLink RL 7 yX9_rake ∈ lw_tbl := List.mem_of_getElem? (i := 516) (by decide +kernel)
theorem wi_X9_rake : Cond.instanceMethod yX9_rake ∈ lw_tbl := List.mem_of_getElem? (i := 517) (by decide +kernel)
theorem ws9_X9_rake : Cond.selects RX9 yX9_rake yX9_rake ∈ lw_tbl := List.mem_of_getElem? (i := 518) (by decide +kernel)
theorem wc_X9_rake : Cond.code yX9_rake cX9_rake 3 (Option.some Jvm.ClassFile.FieldType.int) ∈ lw_tbl := List.mem_of_getElem? (i := 519) (by decide +kernel)
theorem wl_X9_54 : Cond.methodLink RX9 54 yX9_isNoRake ∈ lw_tbl := List.mem_of_getElem? (i := 520) (by decide +kernel)
theorem wt_X9_isNoRake : Cond.static yX9_isNoRake ∈ lw_tbl := List.mem_of_getElem? (i := 521) (by decide +kernel)
theorem wc_X9_isNoRake : Cond.code yX9_isNoRake cX9_isNoRake 1 (Option.some Jvm.ClassFile.FieldType.boolean) ∈ lw_tbl := List.mem_of_getElem? (i := 522) (by decide +kernel)
theorem wk_X9_58 : Cond.classLink RX9 58 "java/lang/IllegalArgumentException" ∈ lw_tbl := List.mem_of_getElem? (i := 523) (by decide +kernel)
theorem wx_525 : Cond.castable "java/lang/IllegalArgumentException" "java/lang/IllegalArgumentException" ∈ lw_tbl := List.mem_of_getElem? (i := 525) (by decide +kernel)
theorem wz_X9_60 : Cond.stringRef RX9 60 "holes is not 2 to 8" ∈ lw_tbl := List.mem_of_getElem? (i := 564) (by decide +kernel)
theorem wl_X9_62 : Cond.methodLink RX9 62 ⟨"java/lang/IllegalArgumentException", "<init>", "(Ljava/lang/String;)V"⟩ ∈ lw_tbl := List.mem_of_getElem? (i := 565) (by decide +kernel)
theorem wa_byte : Cond.arrayClass Jvm.ClassFile.FieldType.byte ∈ lw_tbl := List.mem_of_getElem? (i := 590) (by decide +kernel)
theorem wl_X9_73 : Cond.methodLink RX9 73 yX5_putRake ∈ lw_tbl := List.mem_of_getElem? (i := 591) (by decide +kernel)
theorem wi_X5_putRake : Cond.instanceMethod yX5_putRake ∈ lw_tbl := List.mem_of_getElem? (i := 592) (by decide +kernel)
theorem ws9_X5_putRake : Cond.selects RX5 yX5_putRake yX5_putRake ∈ lw_tbl := List.mem_of_getElem? (i := 593) (by decide +kernel)
theorem wc_X5_putRake : Cond.code yX5_putRake cX5_putRake 3 (Option.none : Option Jvm.ClassFile.FieldType) ∈ lw_tbl := List.mem_of_getElem? (i := 594) (by decide +kernel)
theorem wl_X5_68 : Cond.methodLink RX5 68 yX5_workOfHoles ∈ lw_tbl := List.mem_of_getElem? (i := 595) (by decide +kernel)
theorem wl_X5_72 : Cond.methodLink RX5 72 yX5_clearHole ∈ lw_tbl := List.mem_of_getElem? (i := 596) (by decide +kernel)
theorem wi_X5_clearHole : Cond.instanceMethod yX5_clearHole ∈ lw_tbl := List.mem_of_getElem? (i := 597) (by decide +kernel)
theorem ws9_X5_clearHole : Cond.selects RX5 yX5_clearHole yX5_clearHole ∈ lw_tbl := List.mem_of_getElem? (i := 598) (by decide +kernel)
theorem wc_X5_clearHole : Cond.code yX5_clearHole cX5_clearHole 2 (Option.none : Option Jvm.ClassFile.FieldType) ∈ lw_tbl := List.mem_of_getElem? (i := 599) (by decide +kernel)
theorem wl_X5_76 : Cond.methodLink RX5 76 yX2_put ∈ lw_tbl := List.mem_of_getElem? (i := 600) (by decide +kernel)
theorem wl_L_94 : Cond.methodLink RL 94 yL_radius ∈ lw_tbl := List.mem_of_getElem? (i := 601) (by decide +kernel)
theorem wt_L_radius : Cond.static yL_radius ∈ lw_tbl := List.mem_of_getElem? (i := 602) (by decide +kernel)
theorem wc_L_radius : Cond.codeWith yL_radius cL_radius 4 (Option.some Jvm.ClassFile.FieldType.int) [((0 : Nat), (9 : Nat), (12 : Nat), (13 : Nat))] ∈ lw_tbl := List.mem_of_getElem? (i := 603) (by decide +kernel)
theorem wl_L_15 : Cond.methodLink RL 15 yX9_radius ∈ lw_tbl := List.mem_of_getElem? (i := 604) (by decide +kernel)
theorem wi_X9_radius : Cond.instanceMethod yX9_radius ∈ lw_tbl := List.mem_of_getElem? (i := 605) (by decide +kernel)
theorem ws9_X9_radius : Cond.selects RX9 yX9_radius yX9_radius ∈ lw_tbl := List.mem_of_getElem? (i := 606) (by decide +kernel)
theorem wc_X9_radius : Cond.code yX9_radius cX9_radius 3 (Option.some Jvm.ClassFile.FieldType.int) ∈ lw_tbl := List.mem_of_getElem? (i := 607) (by decide +kernel)
theorem wz_X9_77 : Cond.stringRef RX9 77 "radius is not 50 to 500" ∈ lw_tbl := List.mem_of_getElem? (i := 608) (by decide +kernel)
theorem wl_L_97 : Cond.methodLink RL 97 yL_block ∈ lw_tbl := List.mem_of_getElem? (i := 609) (by decide +kernel)
theorem wt_L_block : Cond.static yL_block ∈ lw_tbl := List.mem_of_getElem? (i := 610) (by decide +kernel)
theorem wc_L_block : Cond.codeWith yL_block cL_block 5 (Option.some Jvm.ClassFile.FieldType.int) [((0 : Nat), (10 : Nat), (13 : Nat), (22 : Nat)), ((0 : Nat), (10 : Nat), (17 : Nat), (13 : Nat))] ∈ lw_tbl := List.mem_of_getElem? (i := 611) (by decide +kernel)
theorem wk_L_22 : Cond.classLink RL 22 "java/lang/IndexOutOfBoundsException" ∈ lw_tbl := List.mem_of_getElem? (i := 612) (by decide +kernel)
theorem wl_L_18 : Cond.methodLink RL 18 yX9_block ∈ lw_tbl := List.mem_of_getElem? (i := 613) (by decide +kernel)
theorem wi_X9_block : Cond.instanceMethod yX9_block ∈ lw_tbl := List.mem_of_getElem? (i := 614) (by decide +kernel)
theorem ws9_X9_block : Cond.selects RX9 yX9_block yX9_block ∈ lw_tbl := List.mem_of_getElem? (i := 615) (by decide +kernel)
theorem wc_X9_block : Cond.code yX9_block cX9_block 4 (Option.some Jvm.ClassFile.FieldType.int) ∈ lw_tbl := List.mem_of_getElem? (i := 616) (by decide +kernel)
theorem wl_X9_82 : Cond.methodLink RX9 82 yX9_isNoHole ∈ lw_tbl := List.mem_of_getElem? (i := 617) (by decide +kernel)
theorem wi_X9_isNoHole : Cond.instanceMethod yX9_isNoHole ∈ lw_tbl := List.mem_of_getElem? (i := 619) (by decide +kernel)
theorem wc_X9_isNoHole : Cond.code yX9_isNoHole cX9_isNoHole 2 (Option.some Jvm.ClassFile.FieldType.boolean) ∈ lw_tbl := List.mem_of_getElem? (i := 620) (by decide +kernel)
theorem wk_X9_85 : Cond.classLink RX9 85 "java/lang/IndexOutOfBoundsException" ∈ lw_tbl := List.mem_of_getElem? (i := 621) (by decide +kernel)
theorem wx_623 : Cond.castable "java/lang/IndexOutOfBoundsException" "java/lang/IndexOutOfBoundsException" ∈ lw_tbl := List.mem_of_getElem? (i := 623) (by decide +kernel)
theorem wz_X9_87 : Cond.stringRef RX9 87 "there is no such hole" ∈ lw_tbl := List.mem_of_getElem? (i := 630) (by decide +kernel)
theorem wl_X9_89 : Cond.methodLink RX9 89 ⟨"java/lang/IndexOutOfBoundsException", "<init>", "(Ljava/lang/String;)V"⟩ ∈ lw_tbl := List.mem_of_getElem? (i := 631) (by decide +kernel)
theorem wz_X9_90 : Cond.stringRef RX9 90 "passes is not 0 to 100" ∈ lw_tbl := List.mem_of_getElem? (i := 637) (by decide +kernel)
theorem wl_L_101 : Cond.methodLink RL 101 yL_leak ∈ lw_tbl := List.mem_of_getElem? (i := 638) (by decide +kernel)
theorem wt_L_leak : Cond.static yL_leak ∈ lw_tbl := List.mem_of_getElem? (i := 639) (by decide +kernel)
theorem wc_L_leak : Cond.codeWith yL_leak cL_leak 5 (Option.some Jvm.ClassFile.FieldType.int) [((0 : Nat), (10 : Nat), (13 : Nat), (22 : Nat)), ((0 : Nat), (10 : Nat), (17 : Nat), (13 : Nat))] ∈ lw_tbl := List.mem_of_getElem? (i := 640) (by decide +kernel)
theorem wl_L_24 : Cond.methodLink RL 24 yX9_leak ∈ lw_tbl := List.mem_of_getElem? (i := 641) (by decide +kernel)
theorem wi_X9_leak : Cond.instanceMethod yX9_leak ∈ lw_tbl := List.mem_of_getElem? (i := 642) (by decide +kernel)
theorem ws9_X9_leak : Cond.selects RX9 yX9_leak yX9_leak ∈ lw_tbl := List.mem_of_getElem? (i := 643) (by decide +kernel)
theorem wc_X9_leak : Cond.code yX9_leak cX9_leak 4 (Option.some Jvm.ClassFile.FieldType.int) ∈ lw_tbl := List.mem_of_getElem? (i := 644) (by decide +kernel)
theorem wz_X9_105 : Cond.stringRef RX9 105 "leak is not 0 to 100" ∈ lw_tbl := List.mem_of_getElem? (i := 645) (by decide +kernel)
theorem wl_L_104 : Cond.methodLink RL 104 yL_clean ∈ lw_tbl := List.mem_of_getElem? (i := 646) (by decide +kernel)
theorem wt_L_clean : Cond.static yL_clean ∈ lw_tbl := List.mem_of_getElem? (i := 647) (by decide +kernel)
theorem wc_L_clean : Cond.codeWith yL_clean cL_clean 4 (Option.some Jvm.ClassFile.FieldType.int) [((0 : Nat), (9 : Nat), (12 : Nat), (22 : Nat))] ∈ lw_tbl := List.mem_of_getElem? (i := 648) (by decide +kernel)
theorem wl_L_27 : Cond.methodLink RL 27 yX9_clean ∈ lw_tbl := List.mem_of_getElem? (i := 649) (by decide +kernel)
theorem wi_X9_clean : Cond.instanceMethod yX9_clean ∈ lw_tbl := List.mem_of_getElem? (i := 650) (by decide +kernel)
theorem ws9_X9_clean : Cond.selects RX9 yX9_clean yX9_clean ∈ lw_tbl := List.mem_of_getElem? (i := 651) (by decide +kernel)
theorem wc_X9_clean : Cond.code yX9_clean cX9_clean 3 (Option.some Jvm.ClassFile.FieldType.int) ∈ lw_tbl := List.mem_of_getElem? (i := 652) (by decide +kernel)
theorem wl_X9_110 : Cond.methodLink RX9 110 yX5_workOfCleaning ∈ lw_tbl := List.mem_of_getElem? (i := 653) (by decide +kernel)
theorem wi_X5_workOfCleaning : Cond.instanceMethod yX5_workOfCleaning ∈ lw_tbl := List.mem_of_getElem? (i := 654) (by decide +kernel)
theorem ws9_X5_workOfCleaning : Cond.selects RX5 yX5_workOfCleaning yX5_workOfCleaning ∈ lw_tbl := List.mem_of_getElem? (i := 655) (by decide +kernel)
theorem wc_X5_workOfCleaning : Cond.code yX5_workOfCleaning cX5_workOfCleaning 4 (Option.some Jvm.ClassFile.FieldType.int) ∈ lw_tbl := List.mem_of_getElem? (i := 656) (by decide +kernel)
theorem wl_X9_114 : Cond.methodLink RX9 114 yX5_clearHole ∈ lw_tbl := List.mem_of_getElem? (i := 657) (by decide +kernel)
theorem wl_X9_117 : Cond.methodLink RX9 117 yX5_addHoleWork ∈ lw_tbl := List.mem_of_getElem? (i := 658) (by decide +kernel)
theorem wi_X5_addHoleWork : Cond.instanceMethod yX5_addHoleWork ∈ lw_tbl := List.mem_of_getElem? (i := 659) (by decide +kernel)
theorem ws9_X5_addHoleWork : Cond.selects RX5 yX5_addHoleWork yX5_addHoleWork ∈ lw_tbl := List.mem_of_getElem? (i := 660) (by decide +kernel)
theorem wc_X5_addHoleWork : Cond.code yX5_addHoleWork cX5_addHoleWork 3 (Option.none : Option Jvm.ClassFile.FieldType) ∈ lw_tbl := List.mem_of_getElem? (i := 661) (by decide +kernel)
theorem wl_L_107 : Cond.methodLink RL 107 yL_test ∈ lw_tbl := List.mem_of_getElem? (i := 662) (by decide +kernel)
theorem wt_L_test : Cond.static yL_test ∈ lw_tbl := List.mem_of_getElem? (i := 663) (by decide +kernel)
theorem wc_L_test : Cond.codeWith yL_test cL_test 4 (Option.some Jvm.ClassFile.FieldType.int) [((0 : Nat), (9 : Nat), (12 : Nat), (22 : Nat))] ∈ lw_tbl := List.mem_of_getElem? (i := 664) (by decide +kernel)
theorem wl_L_30 : Cond.methodLink RL 30 yX9_test ∈ lw_tbl := List.mem_of_getElem? (i := 665) (by decide +kernel)
theorem wi_X9_test : Cond.instanceMethod yX9_test ∈ lw_tbl := List.mem_of_getElem? (i := 666) (by decide +kernel)
theorem ws9_X9_test : Cond.selects RX9 yX9_test yX9_test ∈ lw_tbl := List.mem_of_getElem? (i := 667) (by decide +kernel)
theorem wc_X9_test : Cond.code yX9_test cX9_test 4 (Option.some Jvm.ClassFile.FieldType.int) ∈ lw_tbl := List.mem_of_getElem? (i := 668) (by decide +kernel)
theorem wl_L_114 : Cond.methodLink RL 114 yL_drop ∈ lw_tbl := List.mem_of_getElem? (i := 669) (by decide +kernel)
theorem wt_L_drop : Cond.static yL_drop ∈ lw_tbl := List.mem_of_getElem? (i := 670) (by decide +kernel)
theorem wc_L_drop : Cond.codeWith yL_drop cL_drop 4 (Option.some Jvm.ClassFile.FieldType.int) [((0 : Nat), (9 : Nat), (12 : Nat), (22 : Nat))] ∈ lw_tbl := List.mem_of_getElem? (i := 671) (by decide +kernel)
theorem wl_L_33 : Cond.methodLink RL 33 yX9_drop ∈ lw_tbl := List.mem_of_getElem? (i := 672) (by decide +kernel)
theorem wi_X9_drop : Cond.instanceMethod yX9_drop ∈ lw_tbl := List.mem_of_getElem? (i := 673) (by decide +kernel)
theorem ws9_X9_drop : Cond.selects RX9 yX9_drop yX9_drop ∈ lw_tbl := List.mem_of_getElem? (i := 674) (by decide +kernel)
theorem wc_X9_drop : Cond.code yX9_drop cX9_drop 2 (Option.some Jvm.ClassFile.FieldType.int) ∈ lw_tbl := List.mem_of_getElem? (i := 675) (by decide +kernel)
theorem wl_X9_150 : Cond.methodLink RX9 150 yX9_isNoReading ∈ lw_tbl := List.mem_of_getElem? (i := 676) (by decide +kernel)
theorem wi_X9_isNoReading : Cond.instanceMethod yX9_isNoReading ∈ lw_tbl := List.mem_of_getElem? (i := 678) (by decide +kernel)
theorem wc_X9_isNoReading : Cond.code yX9_isNoReading cX9_isNoReading 2 (Option.some Jvm.ClassFile.FieldType.boolean) ∈ lw_tbl := List.mem_of_getElem? (i := 679) (by decide +kernel)
theorem wz_X9_153 : Cond.stringRef RX9 153 "there is no such reading" ∈ lw_tbl := List.mem_of_getElem? (i := 680) (by decide +kernel)
theorem wl_X9_155 : Cond.methodLink RX9 155 yX1_remove ∈ lw_tbl := List.mem_of_getElem? (i := 681) (by decide +kernel)
theorem wl_L_117 : Cond.methodLink RL 117 yL_set ∈ lw_tbl := List.mem_of_getElem? (i := 682) (by decide +kernel)
theorem wt_L_set : Cond.static yL_set ∈ lw_tbl := List.mem_of_getElem? (i := 683) (by decide +kernel)
theorem wc_L_set : Cond.codeWith yL_set cL_set 5 (Option.some Jvm.ClassFile.FieldType.int) [((0 : Nat), (10 : Nat), (13 : Nat), (22 : Nat)), ((0 : Nat), (10 : Nat), (17 : Nat), (13 : Nat))] ∈ lw_tbl := List.mem_of_getElem? (i := 684) (by decide +kernel)
theorem wl_L_36 : Cond.methodLink RL 36 yX9_set ∈ lw_tbl := List.mem_of_getElem? (i := 685) (by decide +kernel)
theorem wi_X9_set : Cond.instanceMethod yX9_set ∈ lw_tbl := List.mem_of_getElem? (i := 686) (by decide +kernel)
theorem ws9_X9_set : Cond.selects RX9 yX9_set yX9_set ∈ lw_tbl := List.mem_of_getElem? (i := 687) (by decide +kernel)
theorem wc_X9_set : Cond.code yX9_set cX9_set 4 (Option.some Jvm.ClassFile.FieldType.int) ∈ lw_tbl := List.mem_of_getElem? (i := 688) (by decide +kernel)
theorem wl_X9_158 : Cond.methodLink RX9 158 yX9_isNoSetting ∈ lw_tbl := List.mem_of_getElem? (i := 689) (by decide +kernel)
theorem wt_X9_isNoSetting : Cond.static yX9_isNoSetting ∈ lw_tbl := List.mem_of_getElem? (i := 690) (by decide +kernel)
theorem wc_X9_isNoSetting : Cond.code yX9_isNoSetting cX9_isNoSetting 1 (Option.some Jvm.ClassFile.FieldType.boolean) ∈ lw_tbl := List.mem_of_getElem? (i := 691) (by decide +kernel)
theorem wz_X9_161 : Cond.stringRef RX9 161 "there is no such setting" ∈ lw_tbl := List.mem_of_getElem? (i := 692) (by decide +kernel)
theorem wf_X9_163 : Cond.fieldLink RX9 163 "DuctRake" "MOST_VALUES" "[I" ∈ lw_tbl := List.mem_of_getElem? (i := 693) (by decide +kernel)
theorem wz_X9_166 : Cond.stringRef RX9 166 "value is out of range" ∈ lw_tbl := List.mem_of_getElem? (i := 695) (by decide +kernel)
theorem wl_L_120 : Cond.methodLink RL 120 yL_append ∈ lw_tbl := List.mem_of_getElem? (i := 696) (by decide +kernel)
theorem wt_L_append : Cond.static yL_append ∈ lw_tbl := List.mem_of_getElem? (i := 697) (by decide +kernel)
theorem wc_L_append : Cond.codeWith yL_append cL_append 4 (Option.some Jvm.ClassFile.FieldType.int) [((0 : Nat), (9 : Nat), (12 : Nat), (13 : Nat)), ((0 : Nat), (9 : Nat), (15 : Nat), (42 : Nat))] ∈ lw_tbl := List.mem_of_getElem? (i := 698) (by decide +kernel)
theorem wk_L_42 : Cond.classLink RL 42 "java/lang/IllegalStateException" ∈ lw_tbl := List.mem_of_getElem? (i := 699) (by decide +kernel)
theorem wl_L_39 : Cond.methodLink RL 39 yX9_append ∈ lw_tbl := List.mem_of_getElem? (i := 700) (by decide +kernel)
theorem wi_X9_append : Cond.instanceMethod yX9_append ∈ lw_tbl := List.mem_of_getElem? (i := 701) (by decide +kernel)
theorem ws9_X9_append : Cond.selects RX9 yX9_append yX9_append ∈ lw_tbl := List.mem_of_getElem? (i := 702) (by decide +kernel)
theorem wc_X9_append : Cond.code yX9_append cX9_append 2 (Option.some Jvm.ClassFile.FieldType.int) ∈ lw_tbl := List.mem_of_getElem? (i := 703) (by decide +kernel)
theorem wz_X9_168 : Cond.stringRef RX9 168 "code is not 33 to 126" ∈ lw_tbl := List.mem_of_getElem? (i := 704) (by decide +kernel)
theorem wk_X9_173 : Cond.classLink RX9 173 "java/lang/IllegalStateException" ∈ lw_tbl := List.mem_of_getElem? (i := 705) (by decide +kernel)
theorem wx_707 : Cond.castable "java/lang/IllegalStateException" "java/lang/IllegalStateException" ∈ lw_tbl := List.mem_of_getElem? (i := 707) (by decide +kernel)
theorem wz_X9_175 : Cond.stringRef RX9 175 "the buffer has 50 characters" ∈ lw_tbl := List.mem_of_getElem? (i := 714) (by decide +kernel)
theorem wl_X9_177 : Cond.methodLink RX9 177 ⟨"java/lang/IllegalStateException", "<init>", "(Ljava/lang/String;)V"⟩ ∈ lw_tbl := List.mem_of_getElem? (i := 715) (by decide +kernel)
theorem wl_X9_178 : Cond.methodLink RX9 178 yX6_add ∈ lw_tbl := List.mem_of_getElem? (i := 721) (by decide +kernel)
theorem wi_X6_add : Cond.instanceMethod yX6_add ∈ lw_tbl := List.mem_of_getElem? (i := 722) (by decide +kernel)
theorem ws9_X6_add : Cond.selects RX6 yX6_add yX6_add ∈ lw_tbl := List.mem_of_getElem? (i := 723) (by decide +kernel)
theorem wc_X6_add : Cond.code yX6_add cX6_add 2 (Option.none : Option Jvm.ClassFile.FieldType) ∈ lw_tbl := List.mem_of_getElem? (i := 724) (by decide +kernel)
theorem wl_X6_19 : Cond.methodLink RX6 19 yX2_put ∈ lw_tbl := List.mem_of_getElem? (i := 725) (by decide +kernel)
theorem wl_L_131 : Cond.methodLink RL 131 yL_load ∈ lw_tbl := List.mem_of_getElem? (i := 726) (by decide +kernel)
theorem wt_L_load : Cond.static yL_load ∈ lw_tbl := List.mem_of_getElem? (i := 727) (by decide +kernel)
theorem wc_L_load : Cond.codeWith yL_load cL_load 3 (Option.some Jvm.ClassFile.FieldType.int) [((0 : Nat), (8 : Nat), (11 : Nat), (13 : Nat))] ∈ lw_tbl := List.mem_of_getElem? (i := 728) (by decide +kernel)
theorem wl_L_44 : Cond.methodLink RL 44 yX9_load ∈ lw_tbl := List.mem_of_getElem? (i := 729) (by decide +kernel)
theorem wi_X9_load : Cond.instanceMethod yX9_load ∈ lw_tbl := List.mem_of_getElem? (i := 730) (by decide +kernel)
theorem ws9_X9_load : Cond.selects RX9 yX9_load yX9_load ∈ lw_tbl := List.mem_of_getElem? (i := 731) (by decide +kernel)
theorem wc_X9_load : Cond.code yX9_load cX9_load 2 (Option.some Jvm.ClassFile.FieldType.int) ∈ lw_tbl := List.mem_of_getElem? (i := 732) (by decide +kernel)
theorem wl_X9_185 : Cond.methodLink RX9 185 yX6_tellsReading ∈ lw_tbl := List.mem_of_getElem? (i := 733) (by decide +kernel)
theorem wi_X6_tellsReading : Cond.instanceMethod yX6_tellsReading ∈ lw_tbl := List.mem_of_getElem? (i := 734) (by decide +kernel)
theorem ws9_X6_tellsReading : Cond.selects RX6 yX6_tellsReading yX6_tellsReading ∈ lw_tbl := List.mem_of_getElem? (i := 735) (by decide +kernel)
theorem wc_X6_tellsReading : Cond.code yX6_tellsReading cX6_tellsReading 1 (Option.some Jvm.ClassFile.FieldType.boolean) ∈ lw_tbl := List.mem_of_getElem? (i := 736) (by decide +kernel)
theorem wl_X6_33 : Cond.methodLink RX6 33 yX6_firstWrong ∈ lw_tbl := List.mem_of_getElem? (i := 737) (by decide +kernel)
theorem wz_X9_189 : Cond.stringRef RX9 189 "the buffer does not tell a reading as a text" ∈ lw_tbl := List.mem_of_getElem? (i := 738) (by decide +kernel)
theorem wl_X9_191 : Cond.methodLink RX9 191 yX6_headsInto ∈ lw_tbl := List.mem_of_getElem? (i := 739) (by decide +kernel)
theorem wi_X6_headsInto : Cond.instanceMethod yX6_headsInto ∈ lw_tbl := List.mem_of_getElem? (i := 740) (by decide +kernel)
theorem ws9_X6_headsInto : Cond.selects RX6 yX6_headsInto yX6_headsInto ∈ lw_tbl := List.mem_of_getElem? (i := 741) (by decide +kernel)
theorem wc_X6_headsInto : Cond.code yX6_headsInto cX6_headsInto 6 (Option.some Jvm.ClassFile.FieldType.int) ∈ lw_tbl := List.mem_of_getElem? (i := 742) (by decide +kernel)
theorem wl_L_135 : Cond.methodLink RL 135 yL_keep ∈ lw_tbl := List.mem_of_getElem? (i := 743) (by decide +kernel)
theorem wt_L_keep : Cond.static yL_keep ∈ lw_tbl := List.mem_of_getElem? (i := 744) (by decide +kernel)
theorem wc_L_keep : Cond.codeWith yL_keep cL_keep 4 (Option.some Jvm.ClassFile.FieldType.int) [((0 : Nat), (9 : Nat), (12 : Nat), (13 : Nat))] ∈ lw_tbl := List.mem_of_getElem? (i := 745) (by decide +kernel)
theorem wl_L_48 : Cond.methodLink RL 48 yX9_keep ∈ lw_tbl := List.mem_of_getElem? (i := 746) (by decide +kernel)
theorem wi_X9_keep : Cond.instanceMethod yX9_keep ∈ lw_tbl := List.mem_of_getElem? (i := 747) (by decide +kernel)
theorem ws9_X9_keep : Cond.selects RX9 yX9_keep yX9_keep ∈ lw_tbl := List.mem_of_getElem? (i := 748) (by decide +kernel)
theorem wc_X9_keep : Cond.code yX9_keep cX9_keep 3 (Option.some Jvm.ClassFile.FieldType.int) ∈ lw_tbl := List.mem_of_getElem? (i := 749) (by decide +kernel)
theorem wl_X9_195 : Cond.methodLink RX9 195 yX9_isNoSlot ∈ lw_tbl := List.mem_of_getElem? (i := 750) (by decide +kernel)
theorem wt_X9_isNoSlot : Cond.static yX9_isNoSlot ∈ lw_tbl := List.mem_of_getElem? (i := 751) (by decide +kernel)
theorem wc_X9_isNoSlot : Cond.code yX9_isNoSlot cX9_isNoSlot 1 (Option.some Jvm.ClassFile.FieldType.boolean) ∈ lw_tbl := List.mem_of_getElem? (i := 752) (by decide +kernel)
theorem wz_X9_198 : Cond.stringRef RX9 198 "slot is not 0 or 1" ∈ lw_tbl := List.mem_of_getElem? (i := 753) (by decide +kernel)
theorem wl_X9_200 : Cond.methodLink RX9 200 yX9_slotOf ∈ lw_tbl := List.mem_of_getElem? (i := 754) (by decide +kernel)
theorem wi_X9_slotOf : Cond.instanceMethod yX9_slotOf ∈ lw_tbl := List.mem_of_getElem? (i := 756) (by decide +kernel)
theorem wc_X9_slotOf : Cond.code yX9_slotOf cX9_slotOf 2 (Option.some (Jvm.ClassFile.FieldType.object "DuctRake$Slot")) ∈ lw_tbl := List.mem_of_getElem? (i := 757) (by decide +kernel)
theorem wl_X9_207 : Cond.methodLink RX9 207 yX5_become ∈ lw_tbl := List.mem_of_getElem? (i := 758) (by decide +kernel)
theorem wl_L_138 : Cond.methodLink RL 138 yL_goBack ∈ lw_tbl := List.mem_of_getElem? (i := 759) (by decide +kernel)
theorem wt_L_goBack : Cond.static yL_goBack ∈ lw_tbl := List.mem_of_getElem? (i := 760) (by decide +kernel)
theorem wc_L_goBack : Cond.codeWith yL_goBack cL_goBack 4 (Option.some Jvm.ClassFile.FieldType.int) [((0 : Nat), (9 : Nat), (12 : Nat), (13 : Nat)), ((0 : Nat), (9 : Nat), (15 : Nat), (42 : Nat))] ∈ lw_tbl := List.mem_of_getElem? (i := 761) (by decide +kernel)
theorem wl_L_51 : Cond.methodLink RL 51 yX9_goBack ∈ lw_tbl := List.mem_of_getElem? (i := 762) (by decide +kernel)
theorem wi_X9_goBack : Cond.instanceMethod yX9_goBack ∈ lw_tbl := List.mem_of_getElem? (i := 763) (by decide +kernel)
theorem ws9_X9_goBack : Cond.selects RX9 yX9_goBack yX9_goBack ∈ lw_tbl := List.mem_of_getElem? (i := 764) (by decide +kernel)
theorem wc_X9_goBack : Cond.code yX9_goBack cX9_goBack 3 (Option.some Jvm.ClassFile.FieldType.int) ∈ lw_tbl := List.mem_of_getElem? (i := 765) (by decide +kernel)
theorem wz_X9_214 : Cond.stringRef RX9 214 "there is no snapshot in the slot" ∈ lw_tbl := List.mem_of_getElem? (i := 766) (by decide +kernel)
theorem wl_L_141 : Cond.methodLink RL 141 yL_undo ∈ lw_tbl := List.mem_of_getElem? (i := 767) (by decide +kernel)
theorem wt_L_undo : Cond.static yL_undo ∈ lw_tbl := List.mem_of_getElem? (i := 768) (by decide +kernel)
theorem wc_L_undo : Cond.codeWith yL_undo cL_undo 3 (Option.some Jvm.ClassFile.FieldType.int) [((0 : Nat), (8 : Nat), (11 : Nat), (42 : Nat))] ∈ lw_tbl := List.mem_of_getElem? (i := 769) (by decide +kernel)
theorem wl_L_54 : Cond.methodLink RL 54 yX9_undo ∈ lw_tbl := List.mem_of_getElem? (i := 770) (by decide +kernel)
theorem wi_X9_undo : Cond.instanceMethod yX9_undo ∈ lw_tbl := List.mem_of_getElem? (i := 771) (by decide +kernel)
theorem ws9_X9_undo : Cond.selects RX9 yX9_undo yX9_undo ∈ lw_tbl := List.mem_of_getElem? (i := 772) (by decide +kernel)
theorem wc_X9_undo : Cond.code yX9_undo cX9_undo 1 (Option.some Jvm.ClassFile.FieldType.int) ∈ lw_tbl := List.mem_of_getElem? (i := 773) (by decide +kernel)
theorem wz_X9_217 : Cond.stringRef RX9 217 "there is no saved state" ∈ lw_tbl := List.mem_of_getElem? (i := 774) (by decide +kernel)
theorem wl_X9_219 : Cond.methodLink RX9 219 yX3_popInto ∈ lw_tbl := List.mem_of_getElem? (i := 775) (by decide +kernel)
theorem wi_X3_popInto : Cond.instanceMethod yX3_popInto ∈ lw_tbl := List.mem_of_getElem? (i := 776) (by decide +kernel)
theorem ws9_X3_popInto : Cond.selects RX3 yX3_popInto yX3_popInto ∈ lw_tbl := List.mem_of_getElem? (i := 777) (by decide +kernel)
theorem wc_X3_popInto : Cond.code yX3_popInto cX3_popInto 4 (Option.none : Option Jvm.ClassFile.FieldType) ∈ lw_tbl := List.mem_of_getElem? (i := 778) (by decide +kernel)
theorem wl_L_144 : Cond.methodLink RL 144 yL_hole ∈ lw_tbl := List.mem_of_getElem? (i := 779) (by decide +kernel)
theorem wt_L_hole : Cond.static yL_hole ∈ lw_tbl := List.mem_of_getElem? (i := 780) (by decide +kernel)
theorem wc_L_hole : Cond.codeWith yL_hole cL_hole 5 (Option.some Jvm.ClassFile.FieldType.int) [((0 : Nat), (10 : Nat), (13 : Nat), (22 : Nat)), ((0 : Nat), (10 : Nat), (17 : Nat), (13 : Nat))] ∈ lw_tbl := List.mem_of_getElem? (i := 781) (by decide +kernel)
theorem wl_L_57 : Cond.methodLink RL 57 yX9_hole ∈ lw_tbl := List.mem_of_getElem? (i := 782) (by decide +kernel)
theorem wi_X9_hole : Cond.instanceMethod yX9_hole ∈ lw_tbl := List.mem_of_getElem? (i := 783) (by decide +kernel)
theorem ws9_X9_hole : Cond.selects RX9 yX9_hole yX9_hole ∈ lw_tbl := List.mem_of_getElem? (i := 784) (by decide +kernel)
theorem wc_X9_hole : Cond.code yX9_hole cX9_hole 3 (Option.some Jvm.ClassFile.FieldType.int) ∈ lw_tbl := List.mem_of_getElem? (i := 785) (by decide +kernel)
theorem wz_X9_222 : Cond.stringRef RX9 222 "what is not 0 to 11" ∈ lw_tbl := List.mem_of_getElem? (i := 786) (by decide +kernel)
theorem wl_L_147 : Cond.methodLink RL 147 yL_reading ∈ lw_tbl := List.mem_of_getElem? (i := 787) (by decide +kernel)
theorem wt_L_reading : Cond.static yL_reading ∈ lw_tbl := List.mem_of_getElem? (i := 788) (by decide +kernel)
theorem wc_L_reading : Cond.codeWith yL_reading cL_reading 5 (Option.some Jvm.ClassFile.FieldType.int) [((0 : Nat), (10 : Nat), (13 : Nat), (22 : Nat)), ((0 : Nat), (10 : Nat), (17 : Nat), (13 : Nat))] ∈ lw_tbl := List.mem_of_getElem? (i := 789) (by decide +kernel)
theorem wl_L_60 : Cond.methodLink RL 60 yX9_reading ∈ lw_tbl := List.mem_of_getElem? (i := 790) (by decide +kernel)
theorem wi_X9_reading : Cond.instanceMethod yX9_reading ∈ lw_tbl := List.mem_of_getElem? (i := 791) (by decide +kernel)
theorem ws9_X9_reading : Cond.selects RX9 yX9_reading yX9_reading ∈ lw_tbl := List.mem_of_getElem? (i := 792) (by decide +kernel)
theorem wc_X9_reading : Cond.code yX9_reading cX9_reading 3 (Option.some Jvm.ClassFile.FieldType.int) ∈ lw_tbl := List.mem_of_getElem? (i := 793) (by decide +kernel)
theorem wz_X9_231 : Cond.stringRef RX9 231 "what is not 0 to 10" ∈ lw_tbl := List.mem_of_getElem? (i := 794) (by decide +kernel)
theorem wl_L_150 : Cond.methodLink RL 150 yL_flow ∈ lw_tbl := List.mem_of_getElem? (i := 795) (by decide +kernel)
theorem wt_L_flow : Cond.static yL_flow ∈ lw_tbl := List.mem_of_getElem? (i := 796) (by decide +kernel)
theorem wc_L_flow : Cond.codeWith yL_flow cL_flow 4 (Option.some Jvm.ClassFile.FieldType.int) [((0 : Nat), (9 : Nat), (12 : Nat), (13 : Nat))] ∈ lw_tbl := List.mem_of_getElem? (i := 797) (by decide +kernel)
theorem wl_L_63 : Cond.methodLink RL 63 yX9_flow ∈ lw_tbl := List.mem_of_getElem? (i := 798) (by decide +kernel)
theorem wi_X9_flow : Cond.instanceMethod yX9_flow ∈ lw_tbl := List.mem_of_getElem? (i := 799) (by decide +kernel)
theorem ws9_X9_flow : Cond.selects RX9 yX9_flow yX9_flow ∈ lw_tbl := List.mem_of_getElem? (i := 800) (by decide +kernel)
theorem wc_X9_flow : Cond.code yX9_flow cX9_flow 2 (Option.some Jvm.ClassFile.FieldType.int) ∈ lw_tbl := List.mem_of_getElem? (i := 801) (by decide +kernel)
theorem wz_X9_237 : Cond.stringRef RX9 237 "what is not 0 to 3" ∈ lw_tbl := List.mem_of_getElem? (i := 802) (by decide +kernel)
theorem wl_L_153 : Cond.methodLink RL 153 yL_count ∈ lw_tbl := List.mem_of_getElem? (i := 803) (by decide +kernel)
theorem wt_L_count : Cond.static yL_count ∈ lw_tbl := List.mem_of_getElem? (i := 804) (by decide +kernel)
theorem wc_L_count : Cond.codeWith yL_count cL_count 4 (Option.some Jvm.ClassFile.FieldType.int) [((0 : Nat), (9 : Nat), (12 : Nat), (13 : Nat))] ∈ lw_tbl := List.mem_of_getElem? (i := 805) (by decide +kernel)
theorem wl_L_66 : Cond.methodLink RL 66 yX9_count ∈ lw_tbl := List.mem_of_getElem? (i := 806) (by decide +kernel)
theorem wi_X9_count : Cond.instanceMethod yX9_count ∈ lw_tbl := List.mem_of_getElem? (i := 807) (by decide +kernel)
theorem ws9_X9_count : Cond.selects RX9 yX9_count yX9_count ∈ lw_tbl := List.mem_of_getElem? (i := 808) (by decide +kernel)
theorem wc_X9_count : Cond.code yX9_count cX9_count 2 (Option.some Jvm.ClassFile.FieldType.int) ∈ lw_tbl := List.mem_of_getElem? (i := 809) (by decide +kernel)
theorem wz_X9_243 : Cond.stringRef RX9 243 "what is not 0 to 13" ∈ lw_tbl := List.mem_of_getElem? (i := 810) (by decide +kernel)
theorem wl_L_156 : Cond.methodLink RL 156 yL_setting ∈ lw_tbl := List.mem_of_getElem? (i := 811) (by decide +kernel)
theorem wt_L_setting : Cond.static yL_setting ∈ lw_tbl := List.mem_of_getElem? (i := 812) (by decide +kernel)
theorem wc_L_setting : Cond.codeWith yL_setting cL_setting 4 (Option.some Jvm.ClassFile.FieldType.int) [((0 : Nat), (9 : Nat), (12 : Nat), (22 : Nat))] ∈ lw_tbl := List.mem_of_getElem? (i := 813) (by decide +kernel)
theorem wl_L_69 : Cond.methodLink RL 69 yX9_setting ∈ lw_tbl := List.mem_of_getElem? (i := 814) (by decide +kernel)
theorem wi_X9_setting : Cond.instanceMethod yX9_setting ∈ lw_tbl := List.mem_of_getElem? (i := 815) (by decide +kernel)
theorem ws9_X9_setting : Cond.selects RX9 yX9_setting yX9_setting ∈ lw_tbl := List.mem_of_getElem? (i := 816) (by decide +kernel)
theorem wc_X9_setting : Cond.code yX9_setting cX9_setting 2 (Option.some Jvm.ClassFile.FieldType.int) ∈ lw_tbl := List.mem_of_getElem? (i := 817) (by decide +kernel)
theorem wl_L_159 : Cond.methodLink RL 159 yL_ifRight ∈ lw_tbl := List.mem_of_getElem? (i := 818) (by decide +kernel)
theorem wt_L_ifRight : Cond.static yL_ifRight ∈ lw_tbl := List.mem_of_getElem? (i := 819) (by decide +kernel)
theorem wc_L_ifRight : Cond.codeWith yL_ifRight cL_ifRight 4 (Option.some Jvm.ClassFile.FieldType.int) [((0 : Nat), (9 : Nat), (12 : Nat), (22 : Nat))] ∈ lw_tbl := List.mem_of_getElem? (i := 820) (by decide +kernel)
theorem wl_L_72 : Cond.methodLink RL 72 yX9_ifRight ∈ lw_tbl := List.mem_of_getElem? (i := 821) (by decide +kernel)
theorem wi_X9_ifRight : Cond.instanceMethod yX9_ifRight ∈ lw_tbl := List.mem_of_getElem? (i := 822) (by decide +kernel)
theorem ws9_X9_ifRight : Cond.selects RX9 yX9_ifRight yX9_ifRight ∈ lw_tbl := List.mem_of_getElem? (i := 823) (by decide +kernel)
theorem wc_X9_ifRight : Cond.code yX9_ifRight cX9_ifRight 2 (Option.some Jvm.ClassFile.FieldType.int) ∈ lw_tbl := List.mem_of_getElem? (i := 824) (by decide +kernel)
theorem wl_L_166 : Cond.methodLink RL 166 yL_ifRake ∈ lw_tbl := List.mem_of_getElem? (i := 825) (by decide +kernel)
theorem wt_L_ifRake : Cond.static yL_ifRake ∈ lw_tbl := List.mem_of_getElem? (i := 826) (by decide +kernel)
theorem wc_L_ifRake : Cond.codeWith yL_ifRake cL_ifRake 4 (Option.some Jvm.ClassFile.FieldType.int) [((0 : Nat), (9 : Nat), (12 : Nat), (13 : Nat))] ∈ lw_tbl := List.mem_of_getElem? (i := 827) (by decide +kernel)
theorem wl_L_75 : Cond.methodLink RL 75 yX9_ifRake ∈ lw_tbl := List.mem_of_getElem? (i := 828) (by decide +kernel)
theorem wi_X9_ifRake : Cond.instanceMethod yX9_ifRake ∈ lw_tbl := List.mem_of_getElem? (i := 829) (by decide +kernel)
theorem ws9_X9_ifRake : Cond.selects RX9 yX9_ifRake yX9_ifRake ∈ lw_tbl := List.mem_of_getElem? (i := 830) (by decide +kernel)
theorem wc_X9_ifRake : Cond.code yX9_ifRake cX9_ifRake 2 (Option.some Jvm.ClassFile.FieldType.int) ∈ lw_tbl := List.mem_of_getElem? (i := 831) (by decide +kernel)
theorem wl_L_169 : Cond.methodLink RL 169 yL_fineRake ∈ lw_tbl := List.mem_of_getElem? (i := 832) (by decide +kernel)
theorem wt_L_fineRake : Cond.static yL_fineRake ∈ lw_tbl := List.mem_of_getElem? (i := 833) (by decide +kernel)
theorem wc_L_fineRake : Cond.codeWith yL_fineRake cL_fineRake 4 (Option.some Jvm.ClassFile.FieldType.int) [((0 : Nat), (9 : Nat), (12 : Nat), (13 : Nat))] ∈ lw_tbl := List.mem_of_getElem? (i := 834) (by decide +kernel)
theorem wl_L_78 : Cond.methodLink RL 78 yX9_fineRake ∈ lw_tbl := List.mem_of_getElem? (i := 835) (by decide +kernel)
end
section
theorem wi_X9_fineRake : Cond.instanceMethod yX9_fineRake ∈ lw_tbl := List.mem_of_getElem? (i := 836) (by decide +kernel)
theorem ws9_X9_fineRake : Cond.selects RX9 yX9_fineRake yX9_fineRake ∈ lw_tbl := List.mem_of_getElem? (i := 837) (by decide +kernel)
theorem wc_X9_fineRake : Cond.code yX9_fineRake cX9_fineRake 2 (Option.some Jvm.ClassFile.FieldType.int) ∈ lw_tbl := List.mem_of_getElem? (i := 838) (by decide +kernel)
theorem wq_X9_258 : Cond.constant RX9 258 (99999) ∈ lw_tbl := List.mem_of_getElem? (i := 839) (by decide +kernel)
theorem wz_X9_259 : Cond.stringRef RX9 259 "most is not 0 to 99999" ∈ lw_tbl := List.mem_of_getElem? (i := 840) (by decide +kernel)
theorem wk_L_82 : Cond.classLink RL 82 RX10 ∈ lw_tbl := List.mem_of_getElem? (i := 841) (by decide +kernel)
theorem wo_X10 : Cond.instantiable RX10 18 ∈ lw_tbl := List.mem_of_getElem? (i := 842) (by decide +kernel)
theorem wl_L_84 : Cond.methodLink RL 84 yX10_init ∈ lw_tbl := List.mem_of_getElem? (i := 843) (by decide +kernel)
theorem wi_X10_init : Cond.instanceMethod yX10_init ∈ lw_tbl := List.mem_of_getElem? (i := 844) (by decide +kernel)
theorem wc_X10_init : Cond.code yX10_init cX10_init 1 (Option.none : Option Jvm.ClassFile.FieldType) ∈ lw_tbl := List.mem_of_getElem? (i := 845) (by decide +kernel)
theorem wl_X10_1 : Cond.methodLink RX10 1 ⟨"java/lang/Object", "<init>", "()V"⟩ ∈ lw_tbl := List.mem_of_getElem? (i := 846) (by decide +kernel)
theorem wl_X10_42 : Cond.methodLink RX10 42 yX10_clearsHoles ∈ lw_tbl := List.mem_of_getElem? (i := 847) (by decide +kernel)
theorem wi_X10_clearsHoles : Cond.instanceMethod yX10_clearsHoles ∈ lw_tbl := List.mem_of_getElem? (i := 849) (by decide +kernel)
theorem wc_X10_clearsHoles : Cond.code yX10_clearsHoles cX10_clearsHoles 2 (Option.none : Option Jvm.ClassFile.FieldType) ∈ lw_tbl := List.mem_of_getElem? (i := 850) (by decide +kernel)
theorem wl_X10_49 : Cond.methodLink RX10 49 yX10_lay ∈ lw_tbl := List.mem_of_getElem? (i := 851) (by decide +kernel)
theorem wi_X10_lay : Cond.instanceMethod yX10_lay ∈ lw_tbl := List.mem_of_getElem? (i := 853) (by decide +kernel)
theorem wc_X10_lay : Cond.code yX10_lay cX10_lay 4 (Option.none : Option Jvm.ClassFile.FieldType) ∈ lw_tbl := List.mem_of_getElem? (i := 854) (by decide +kernel)
theorem wf_X10_38 : Cond.fieldLink RX10 38 "DuctRakeModel" "thrown" "I" ∈ lw_tbl := List.mem_of_getElem? (i := 855) (by decide +kernel)
theorem wf_X10_7 : Cond.fieldLink RX10 7 "DuctRakeModel" "s" "[I" ∈ lw_tbl := List.mem_of_getElem? (i := 856) (by decide +kernel)
theorem wf_X10_13 : Cond.fieldLink RX10 13 "DuctRakeModel" "saved" "[I" ∈ lw_tbl := List.mem_of_getElem? (i := 857) (by decide +kernel)
theorem wf_X10_53 : Cond.fieldLink RX10 53 "DuctRakeModel" "savedMany" "I" ∈ lw_tbl := List.mem_of_getElem? (i := 858) (by decide +kernel)
theorem wf_X10_16 : Cond.fieldLink RX10 16 "DuctRakeModel" "slots" "[I" ∈ lw_tbl := List.mem_of_getElem? (i := 859) (by decide +kernel)
theorem wf_X10_19 : Cond.fieldLink RX10 19 "DuctRakeModel" "hasSlot" "[Z" ∈ lw_tbl := List.mem_of_getElem? (i := 860) (by decide +kernel)
theorem wf_X10_23 : Cond.fieldLink RX10 23 "DuctRakeModel" "buffer" "[I" ∈ lw_tbl := List.mem_of_getElem? (i := 861) (by decide +kernel)
theorem wf_X10_137 : Cond.fieldLink RX10 137 "DuctRakeModel" "length" "I" ∈ lw_tbl := List.mem_of_getElem? (i := 862) (by decide +kernel)
theorem wf_X10_80 : Cond.fieldLink RX10 80 "DuctRakeModel" "counting" "I" ∈ lw_tbl := List.mem_of_getElem? (i := 863) (by decide +kernel)
theorem wf_X10_26 : Cond.fieldLink RX10 26 "DuctRakeModel" "means" "[I" ∈ lw_tbl := List.mem_of_getElem? (i := 864) (by decide +kernel)
theorem wf_X10_29 : Cond.fieldLink RX10 29 "DuctRakeModel" "reasons" "[I" ∈ lw_tbl := List.mem_of_getElem? (i := 865) (by decide +kernel)
theorem wf_X10_32 : Cond.fieldLink RX10 32 "DuctRakeModel" "told" "[I" ∈ lw_tbl := List.mem_of_getElem? (i := 866) (by decide +kernel)
theorem wf_X10_93 : Cond.fieldLink RX10 93 "DuctRakeModel" "trusted" "I" ∈ lw_tbl := List.mem_of_getElem? (i := 867) (by decide +kernel)
theorem wf_X10_140 : Cond.fieldLink RX10 140 "DuctRakeModel" "at" "I" ∈ lw_tbl := List.mem_of_getElem? (i := 868) (by decide +kernel)
theorem wf_X10_146 : Cond.fieldLink RX10 146 "DuctRakeModel" "isWell" "Z" ∈ lw_tbl := List.mem_of_getElem? (i := 869) (by decide +kernel)
theorem wf_X10_35 : Cond.fieldLink RX10 35 "DuctRakeModel" "read" "[I" ∈ lw_tbl := List.mem_of_getElem? (i := 870) (by decide +kernel)
theorem wf_X10_151 : Cond.fieldLink RX10 151 "DuctRakeModel" "readMany" "I" ∈ lw_tbl := List.mem_of_getElem? (i := 871) (by decide +kernel)
theorem wf_X10_199 : Cond.fieldLink RX10 199 "DuctRakeModel" "hash" "J" ∈ lw_tbl := List.mem_of_getElem? (i := 872) (by decide +kernel)
theorem wa_boolean : Cond.arrayClass Jvm.ClassFile.FieldType.boolean ∈ lw_tbl := List.mem_of_getElem? (i := 910) (by decide +kernel)
theorem wl_L_91 : Cond.methodLink RL 91 yX10_thrown ∈ lw_tbl := List.mem_of_getElem? (i := 911) (by decide +kernel)
theorem wi_X10_thrown : Cond.instanceMethod yX10_thrown ∈ lw_tbl := List.mem_of_getElem? (i := 912) (by decide +kernel)
theorem ws9_X10_thrown : Cond.selects RX10 yX10_thrown yX10_thrown ∈ lw_tbl := List.mem_of_getElem? (i := 913) (by decide +kernel)
theorem wc_X10_thrown : Cond.code yX10_thrown cX10_thrown 1 (Option.some Jvm.ClassFile.FieldType.int) ∈ lw_tbl := List.mem_of_getElem? (i := 914) (by decide +kernel)
theorem wl_L_90 : Cond.methodLink RL 90 yX10_rake ∈ lw_tbl := List.mem_of_getElem? (i := 915) (by decide +kernel)
theorem wi_X10_rake : Cond.instanceMethod yX10_rake ∈ lw_tbl := List.mem_of_getElem? (i := 916) (by decide +kernel)
theorem ws9_X10_rake : Cond.selects RX10 yX10_rake yX10_rake ∈ lw_tbl := List.mem_of_getElem? (i := 917) (by decide +kernel)
theorem wc_X10_rake : Cond.code yX10_rake cX10_rake 3 (Option.some Jvm.ClassFile.FieldType.int) ∈ lw_tbl := List.mem_of_getElem? (i := 918) (by decide +kernel)
theorem wl_X10_45 : Cond.methodLink RX10 45 yX10_in ∈ lw_tbl := List.mem_of_getElem? (i := 919) (by decide +kernel)
theorem wt_X10_in : Cond.static yX10_in ∈ lw_tbl := List.mem_of_getElem? (i := 920) (by decide +kernel)
theorem wc_X10_in : Cond.code yX10_in cX10_in 3 (Option.some Jvm.ClassFile.FieldType.boolean) ∈ lw_tbl := List.mem_of_getElem? (i := 921) (by decide +kernel)
theorem wl_X10_110 : Cond.methodLink RX10 110 yX10_fails ∈ lw_tbl := List.mem_of_getElem? (i := 922) (by decide +kernel)
theorem wi_X10_fails : Cond.instanceMethod yX10_fails ∈ lw_tbl := List.mem_of_getElem? (i := 924) (by decide +kernel)
theorem wc_X10_fails : Cond.code yX10_fails cX10_fails 2 (Option.some Jvm.ClassFile.FieldType.int) ∈ lw_tbl := List.mem_of_getElem? (i := 925) (by decide +kernel)
theorem wl_X10_113 : Cond.methodLink RX10 113 yX10_saves ∈ lw_tbl := List.mem_of_getElem? (i := 926) (by decide +kernel)
theorem wi_X10_saves : Cond.instanceMethod yX10_saves ∈ lw_tbl := List.mem_of_getElem? (i := 928) (by decide +kernel)
theorem wc_X10_saves : Cond.code yX10_saves cX10_saves 2 (Option.none : Option Jvm.ClassFile.FieldType) ∈ lw_tbl := List.mem_of_getElem? (i := 929) (by decide +kernel)
theorem wl_X10_116 : Cond.methodLink RX10 116 yX10_holeWork ∈ lw_tbl := List.mem_of_getElem? (i := 930) (by decide +kernel)
theorem wi_X10_holeWork : Cond.instanceMethod yX10_holeWork ∈ lw_tbl := List.mem_of_getElem? (i := 932) (by decide +kernel)
theorem wc_X10_holeWork : Cond.code yX10_holeWork cX10_holeWork 3 (Option.some Jvm.ClassFile.FieldType.int) ∈ lw_tbl := List.mem_of_getElem? (i := 933) (by decide +kernel)
theorem wl_X10_71 : Cond.methodLink RX10 71 yX10_of ∈ lw_tbl := List.mem_of_getElem? (i := 934) (by decide +kernel)
theorem wi_X10_of : Cond.instanceMethod yX10_of ∈ lw_tbl := List.mem_of_getElem? (i := 936) (by decide +kernel)
theorem wc_X10_of : Cond.code yX10_of cX10_of 3 (Option.some Jvm.ClassFile.FieldType.int) ∈ lw_tbl := List.mem_of_getElem? (i := 937) (by decide +kernel)
theorem wl_L_96 : Cond.methodLink RL 96 yX10_radius ∈ lw_tbl := List.mem_of_getElem? (i := 938) (by decide +kernel)
theorem wi_X10_radius : Cond.instanceMethod yX10_radius ∈ lw_tbl := List.mem_of_getElem? (i := 939) (by decide +kernel)
theorem ws9_X10_radius : Cond.selects RX10 yX10_radius yX10_radius ∈ lw_tbl := List.mem_of_getElem? (i := 940) (by decide +kernel)
theorem wc_X10_radius : Cond.code yX10_radius cX10_radius 3 (Option.some Jvm.ClassFile.FieldType.int) ∈ lw_tbl := List.mem_of_getElem? (i := 941) (by decide +kernel)
theorem wl_L_100 : Cond.methodLink RL 100 yX10_block ∈ lw_tbl := List.mem_of_getElem? (i := 942) (by decide +kernel)
theorem wi_X10_block : Cond.instanceMethod yX10_block ∈ lw_tbl := List.mem_of_getElem? (i := 943) (by decide +kernel)
theorem ws9_X10_block : Cond.selects RX10 yX10_block yX10_block ∈ lw_tbl := List.mem_of_getElem? (i := 944) (by decide +kernel)
theorem wc_X10_block : Cond.code yX10_block cX10_block 3 (Option.some Jvm.ClassFile.FieldType.int) ∈ lw_tbl := List.mem_of_getElem? (i := 945) (by decide +kernel)
theorem wl_X10_120 : Cond.methodLink RX10 120 yX10_changes ∈ lw_tbl := List.mem_of_getElem? (i := 946) (by decide +kernel)
theorem wi_X10_changes : Cond.instanceMethod yX10_changes ∈ lw_tbl := List.mem_of_getElem? (i := 948) (by decide +kernel)
theorem wc_X10_changes : Cond.code yX10_changes cX10_changes 5 (Option.some Jvm.ClassFile.FieldType.int) ∈ lw_tbl := List.mem_of_getElem? (i := 949) (by decide +kernel)
theorem wl_X10_87 : Cond.methodLink RX10 87 yX10_isHole ∈ lw_tbl := List.mem_of_getElem? (i := 950) (by decide +kernel)
theorem wi_X10_isHole : Cond.instanceMethod yX10_isHole ∈ lw_tbl := List.mem_of_getElem? (i := 952) (by decide +kernel)
theorem wc_X10_isHole : Cond.code yX10_isHole cX10_isHole 2 (Option.some Jvm.ClassFile.FieldType.boolean) ∈ lw_tbl := List.mem_of_getElem? (i := 953) (by decide +kernel)
theorem wl_L_103 : Cond.methodLink RL 103 yX10_leak ∈ lw_tbl := List.mem_of_getElem? (i := 954) (by decide +kernel)
theorem wi_X10_leak : Cond.instanceMethod yX10_leak ∈ lw_tbl := List.mem_of_getElem? (i := 955) (by decide +kernel)
theorem ws9_X10_leak : Cond.selects RX10 yX10_leak yX10_leak ∈ lw_tbl := List.mem_of_getElem? (i := 956) (by decide +kernel)
theorem wc_X10_leak : Cond.code yX10_leak cX10_leak 3 (Option.some Jvm.ClassFile.FieldType.int) ∈ lw_tbl := List.mem_of_getElem? (i := 957) (by decide +kernel)
theorem wl_L_106 : Cond.methodLink RL 106 yX10_clean ∈ lw_tbl := List.mem_of_getElem? (i := 958) (by decide +kernel)
theorem wi_X10_clean : Cond.instanceMethod yX10_clean ∈ lw_tbl := List.mem_of_getElem? (i := 959) (by decide +kernel)
theorem ws9_X10_clean : Cond.selects RX10 yX10_clean yX10_clean ∈ lw_tbl := List.mem_of_getElem? (i := 960) (by decide +kernel)
theorem wc_X10_clean : Cond.code yX10_clean cX10_clean 3 (Option.some Jvm.ClassFile.FieldType.int) ∈ lw_tbl := List.mem_of_getElem? (i := 961) (by decide +kernel)
theorem wl_L_109 : Cond.methodLink RL 109 yX10_test ∈ lw_tbl := List.mem_of_getElem? (i := 962) (by decide +kernel)
theorem wi_X10_test : Cond.instanceMethod yX10_test ∈ lw_tbl := List.mem_of_getElem? (i := 963) (by decide +kernel)
theorem ws9_X10_test : Cond.selects RX10 yX10_test yX10_test ∈ lw_tbl := List.mem_of_getElem? (i := 964) (by decide +kernel)
theorem wc_X10_test : Cond.code yX10_test cX10_test 3 (Option.some Jvm.ClassFile.FieldType.int) ∈ lw_tbl := List.mem_of_getElem? (i := 965) (by decide +kernel)
theorem wl_L_113 : Cond.methodLink RL 113 yX10_read ∈ lw_tbl := List.mem_of_getElem? (i := 966) (by decide +kernel)
theorem wi_X10_read : Cond.instanceMethod yX10_read ∈ lw_tbl := List.mem_of_getElem? (i := 967) (by decide +kernel)
theorem ws9_X10_read : Cond.selects RX10 yX10_read yX10_read ∈ lw_tbl := List.mem_of_getElem? (i := 968) (by decide +kernel)
theorem wc_X10_read : Cond.code yX10_read cX10_read 3 (Option.some Jvm.ClassFile.FieldType.int) ∈ lw_tbl := List.mem_of_getElem? (i := 969) (by decide +kernel)
theorem wl_X10_127 : Cond.methodLink RX10 127 yX10_comes ∈ lw_tbl := List.mem_of_getElem? (i := 970) (by decide +kernel)
theorem wi_X10_comes : Cond.instanceMethod yX10_comes ∈ lw_tbl := List.mem_of_getElem? (i := 972) (by decide +kernel)
theorem wc_X10_comes : Cond.code yX10_comes cX10_comes 3 (Option.some Jvm.ClassFile.FieldType.int) ∈ lw_tbl := List.mem_of_getElem? (i := 973) (by decide +kernel)
theorem wl_X10_124 : Cond.methodLink RX10 124 yX10_drops ∈ lw_tbl := List.mem_of_getElem? (i := 974) (by decide +kernel)
theorem wi_X10_drops : Cond.instanceMethod yX10_drops ∈ lw_tbl := List.mem_of_getElem? (i := 976) (by decide +kernel)
theorem wc_X10_drops : Cond.code yX10_drops cX10_drops 3 (Option.none : Option Jvm.ClassFile.FieldType) ∈ lw_tbl := List.mem_of_getElem? (i := 977) (by decide +kernel)
theorem wl_X10_130 : Cond.methodLink RX10 130 yX10_felt ∈ lw_tbl := List.mem_of_getElem? (i := 978) (by decide +kernel)
theorem wi_X10_felt : Cond.instanceMethod yX10_felt ∈ lw_tbl := List.mem_of_getElem? (i := 980) (by decide +kernel)
theorem wc_X10_felt : Cond.code yX10_felt cX10_felt 3 (Option.some Jvm.ClassFile.FieldType.int) ∈ lw_tbl := List.mem_of_getElem? (i := 981) (by decide +kernel)
theorem wl_X10_68 : Cond.methodLink RX10 68 yX10_trueHead ∈ lw_tbl := List.mem_of_getElem? (i := 982) (by decide +kernel)
theorem wi_X10_trueHead : Cond.instanceMethod yX10_trueHead ∈ lw_tbl := List.mem_of_getElem? (i := 984) (by decide +kernel)
theorem wc_X10_trueHead : Cond.code yX10_trueHead cX10_trueHead 3 (Option.some Jvm.ClassFile.FieldType.int) ∈ lw_tbl := List.mem_of_getElem? (i := 985) (by decide +kernel)
theorem wl_X10_65 : Cond.methodLink RX10 65 yX10_trueSpeed ∈ lw_tbl := List.mem_of_getElem? (i := 986) (by decide +kernel)
theorem wi_X10_trueSpeed : Cond.instanceMethod yX10_trueSpeed ∈ lw_tbl := List.mem_of_getElem? (i := 988) (by decide +kernel)
theorem wc_X10_trueSpeed : Cond.code yX10_trueSpeed cX10_trueSpeed 4 (Option.some Jvm.ClassFile.FieldType.int) ∈ lw_tbl := List.mem_of_getElem? (i := 989) (by decide +kernel)
theorem wl_X10_61 : Cond.methodLink RX10 61 yX10_distance ∈ lw_tbl := List.mem_of_getElem? (i := 990) (by decide +kernel)
theorem wi_X10_distance : Cond.instanceMethod yX10_distance ∈ lw_tbl := List.mem_of_getElem? (i := 992) (by decide +kernel)
theorem wc_X10_distance : Cond.code yX10_distance cX10_distance 3 (Option.some Jvm.ClassFile.FieldType.int) ∈ lw_tbl := List.mem_of_getElem? (i := 993) (by decide +kernel)
theorem wl_X10_57 : Cond.methodLink RX10 57 yX10_root ∈ lw_tbl := List.mem_of_getElem? (i := 994) (by decide +kernel)
theorem wt_X10_root : Cond.static yX10_root ∈ lw_tbl := List.mem_of_getElem? (i := 995) (by decide +kernel)
theorem wc_X10_root : Cond.code yX10_root cX10_root 5 (Option.some Jvm.ClassFile.FieldType.int) ∈ lw_tbl := List.mem_of_getElem? (i := 996) (by decide +kernel)
theorem wq_X10_56 : Cond.constant RX10 56 (46340) ∈ lw_tbl := List.mem_of_getElem? (i := 997) (by decide +kernel)
theorem wl_L_116 : Cond.methodLink RL 116 yX10_drop ∈ lw_tbl := List.mem_of_getElem? (i := 998) (by decide +kernel)
theorem wi_X10_drop : Cond.instanceMethod yX10_drop ∈ lw_tbl := List.mem_of_getElem? (i := 999) (by decide +kernel)
theorem ws9_X10_drop : Cond.selects RX10 yX10_drop yX10_drop ∈ lw_tbl := List.mem_of_getElem? (i := 1000) (by decide +kernel)
theorem wc_X10_drop : Cond.code yX10_drop cX10_drop 2 (Option.some Jvm.ClassFile.FieldType.int) ∈ lw_tbl := List.mem_of_getElem? (i := 1001) (by decide +kernel)
theorem wl_L_119 : Cond.methodLink RL 119 yX10_set ∈ lw_tbl := List.mem_of_getElem? (i := 1002) (by decide +kernel)
theorem wi_X10_set : Cond.instanceMethod yX10_set ∈ lw_tbl := List.mem_of_getElem? (i := 1003) (by decide +kernel)
theorem ws9_X10_set : Cond.selects RX10 yX10_set yX10_set ∈ lw_tbl := List.mem_of_getElem? (i := 1004) (by decide +kernel)
theorem wc_X10_set : Cond.code yX10_set cX10_set 4 (Option.some Jvm.ClassFile.FieldType.int) ∈ lw_tbl := List.mem_of_getElem? (i := 1005) (by decide +kernel)
theorem wl_X10_133 : Cond.methodLink RX10 133 yX10_isSetting ∈ lw_tbl := List.mem_of_getElem? (i := 1006) (by decide +kernel)
theorem wt_X10_isSetting : Cond.static yX10_isSetting ∈ lw_tbl := List.mem_of_getElem? (i := 1007) (by decide +kernel)
theorem wc_X10_isSetting : Cond.code yX10_isSetting cX10_isSetting 2 (Option.some Jvm.ClassFile.FieldType.boolean) ∈ lw_tbl := List.mem_of_getElem? (i := 1008) (by decide +kernel)
theorem wl_L_122 : Cond.methodLink RL 122 yX10_append ∈ lw_tbl := List.mem_of_getElem? (i := 1009) (by decide +kernel)
theorem wi_X10_append : Cond.instanceMethod yX10_append ∈ lw_tbl := List.mem_of_getElem? (i := 1010) (by decide +kernel)
theorem ws9_X10_append : Cond.selects RX10 yX10_append yX10_append ∈ lw_tbl := List.mem_of_getElem? (i := 1011) (by decide +kernel)
theorem wc_X10_append : Cond.code yX10_append cX10_append 2 (Option.some Jvm.ClassFile.FieldType.int) ∈ lw_tbl := List.mem_of_getElem? (i := 1012) (by decide +kernel)
theorem wl_L_126 : Cond.methodLink RL 126 yX10_clearBuffer ∈ lw_tbl := List.mem_of_getElem? (i := 1013) (by decide +kernel)
theorem wi_X10_clearBuffer : Cond.instanceMethod yX10_clearBuffer ∈ lw_tbl := List.mem_of_getElem? (i := 1014) (by decide +kernel)
theorem ws9_X10_clearBuffer : Cond.selects RX10 yX10_clearBuffer yX10_clearBuffer ∈ lw_tbl := List.mem_of_getElem? (i := 1015) (by decide +kernel)
theorem wc_X10_clearBuffer : Cond.code yX10_clearBuffer cX10_clearBuffer 2 (Option.some Jvm.ClassFile.FieldType.int) ∈ lw_tbl := List.mem_of_getElem? (i := 1016) (by decide +kernel)
theorem wl_L_130 : Cond.methodLink RL 130 yX10_firstError ∈ lw_tbl := List.mem_of_getElem? (i := 1017) (by decide +kernel)
theorem wi_X10_firstError : Cond.instanceMethod yX10_firstError ∈ lw_tbl := List.mem_of_getElem? (i := 1018) (by decide +kernel)
theorem ws9_X10_firstError : Cond.selects RX10 yX10_firstError yX10_firstError ∈ lw_tbl := List.mem_of_getElem? (i := 1019) (by decide +kernel)
theorem wc_X10_firstError : Cond.code yX10_firstError cX10_firstError 1 (Option.some Jvm.ClassFile.FieldType.int) ∈ lw_tbl := List.mem_of_getElem? (i := 1020) (by decide +kernel)
theorem wl_X10_157 : Cond.methodLink RX10 157 yX10_readsAll ∈ lw_tbl := List.mem_of_getElem? (i := 1021) (by decide +kernel)
theorem wi_X10_readsAll : Cond.instanceMethod yX10_readsAll ∈ lw_tbl := List.mem_of_getElem? (i := 1023) (by decide +kernel)
theorem wc_X10_readsAll : Cond.code yX10_readsAll cX10_readsAll 1 (Option.none : Option Jvm.ClassFile.FieldType) ∈ lw_tbl := List.mem_of_getElem? (i := 1024) (by decide +kernel)
theorem wl_X10_154 : Cond.methodLink RX10 154 yX10_readsHead ∈ lw_tbl := List.mem_of_getElem? (i := 1025) (by decide +kernel)
theorem wi_X10_readsHead : Cond.instanceMethod yX10_readsHead ∈ lw_tbl := List.mem_of_getElem? (i := 1027) (by decide +kernel)
theorem wc_X10_readsHead : Cond.code yX10_readsHead cX10_readsHead 2 (Option.none : Option Jvm.ClassFile.FieldType) ∈ lw_tbl := List.mem_of_getElem? (i := 1028) (by decide +kernel)
theorem wl_X10_143 : Cond.methodLink RX10 143 yX10_sign ∈ lw_tbl := List.mem_of_getElem? (i := 1029) (by decide +kernel)
theorem wi_X10_sign : Cond.instanceMethod yX10_sign ∈ lw_tbl := List.mem_of_getElem? (i := 1031) (by decide +kernel)
theorem wc_X10_sign : Cond.code yX10_sign cX10_sign 1 (Option.some Jvm.ClassFile.FieldType.int) ∈ lw_tbl := List.mem_of_getElem? (i := 1032) (by decide +kernel)
theorem wq_X10_150 : Cond.constant RX10 150 (99999) ∈ lw_tbl := List.mem_of_getElem? (i := 1033) (by decide +kernel)
theorem wl_L_134 : Cond.methodLink RL 134 yX10_load ∈ lw_tbl := List.mem_of_getElem? (i := 1034) (by decide +kernel)
theorem wi_X10_load : Cond.instanceMethod yX10_load ∈ lw_tbl := List.mem_of_getElem? (i := 1035) (by decide +kernel)
theorem ws9_X10_load : Cond.selects RX10 yX10_load yX10_load ∈ lw_tbl := List.mem_of_getElem? (i := 1036) (by decide +kernel)
theorem wc_X10_load : Cond.code yX10_load cX10_load 3 (Option.some Jvm.ClassFile.FieldType.int) ∈ lw_tbl := List.mem_of_getElem? (i := 1037) (by decide +kernel)
theorem wl_L_137 : Cond.methodLink RL 137 yX10_keep ∈ lw_tbl := List.mem_of_getElem? (i := 1038) (by decide +kernel)
theorem wi_X10_keep : Cond.instanceMethod yX10_keep ∈ lw_tbl := List.mem_of_getElem? (i := 1039) (by decide +kernel)
theorem ws9_X10_keep : Cond.selects RX10 yX10_keep yX10_keep ∈ lw_tbl := List.mem_of_getElem? (i := 1040) (by decide +kernel)
theorem wc_X10_keep : Cond.code yX10_keep cX10_keep 3 (Option.some Jvm.ClassFile.FieldType.int) ∈ lw_tbl := List.mem_of_getElem? (i := 1041) (by decide +kernel)
theorem wl_L_140 : Cond.methodLink RL 140 yX10_goBack ∈ lw_tbl := List.mem_of_getElem? (i := 1042) (by decide +kernel)
theorem wi_X10_goBack : Cond.instanceMethod yX10_goBack ∈ lw_tbl := List.mem_of_getElem? (i := 1043) (by decide +kernel)
theorem ws9_X10_goBack : Cond.selects RX10 yX10_goBack yX10_goBack ∈ lw_tbl := List.mem_of_getElem? (i := 1044) (by decide +kernel)
theorem wc_X10_goBack : Cond.code yX10_goBack cX10_goBack 3 (Option.some Jvm.ClassFile.FieldType.int) ∈ lw_tbl := List.mem_of_getElem? (i := 1045) (by decide +kernel)
theorem wl_L_143 : Cond.methodLink RL 143 yX10_undo ∈ lw_tbl := List.mem_of_getElem? (i := 1046) (by decide +kernel)
theorem wi_X10_undo : Cond.instanceMethod yX10_undo ∈ lw_tbl := List.mem_of_getElem? (i := 1047) (by decide +kernel)
theorem ws9_X10_undo : Cond.selects RX10 yX10_undo yX10_undo ∈ lw_tbl := List.mem_of_getElem? (i := 1048) (by decide +kernel)
theorem wc_X10_undo : Cond.code yX10_undo cX10_undo 2 (Option.some Jvm.ClassFile.FieldType.int) ∈ lw_tbl := List.mem_of_getElem? (i := 1049) (by decide +kernel)
theorem wl_L_146 : Cond.methodLink RL 146 yX10_hole ∈ lw_tbl := List.mem_of_getElem? (i := 1050) (by decide +kernel)
theorem wi_X10_hole : Cond.instanceMethod yX10_hole ∈ lw_tbl := List.mem_of_getElem? (i := 1051) (by decide +kernel)
theorem ws9_X10_hole : Cond.selects RX10 yX10_hole yX10_hole ∈ lw_tbl := List.mem_of_getElem? (i := 1052) (by decide +kernel)
theorem wc_X10_hole : Cond.code yX10_hole cX10_hole 3 (Option.some Jvm.ClassFile.FieldType.int) ∈ lw_tbl := List.mem_of_getElem? (i := 1053) (by decide +kernel)
theorem wl_X10_166 : Cond.methodLink RX10 166 yX10_tellsHole ∈ lw_tbl := List.mem_of_getElem? (i := 1054) (by decide +kernel)
theorem wi_X10_tellsHole : Cond.instanceMethod yX10_tellsHole ∈ lw_tbl := List.mem_of_getElem? (i := 1056) (by decide +kernel)
theorem wc_X10_tellsHole : Cond.code yX10_tellsHole cX10_tellsHole 3 (Option.some Jvm.ClassFile.FieldType.int) ∈ lw_tbl := List.mem_of_getElem? (i := 1057) (by decide +kernel)
theorem wl_X10_160 : Cond.methodLink RX10 160 yX10_laysAll ∈ lw_tbl := List.mem_of_getElem? (i := 1058) (by decide +kernel)
theorem wi_X10_laysAll : Cond.instanceMethod yX10_laysAll ∈ lw_tbl := List.mem_of_getElem? (i := 1060) (by decide +kernel)
theorem wc_X10_laysAll : Cond.code yX10_laysAll cX10_laysAll 1 (Option.none : Option Jvm.ClassFile.FieldType) ∈ lw_tbl := List.mem_of_getElem? (i := 1061) (by decide +kernel)
theorem wl_X10_103 : Cond.methodLink RX10 103 yX10_laysMeans ∈ lw_tbl := List.mem_of_getElem? (i := 1062) (by decide +kernel)
theorem wi_X10_laysMeans : Cond.instanceMethod yX10_laysMeans ∈ lw_tbl := List.mem_of_getElem? (i := 1064) (by decide +kernel)
theorem wc_X10_laysMeans : Cond.code yX10_laysMeans cX10_laysMeans 3 (Option.none : Option Jvm.ClassFile.FieldType) ∈ lw_tbl := List.mem_of_getElem? (i := 1065) (by decide +kernel)
theorem wl_X10_83 : Cond.methodLink RX10 83 yX10_counts ∈ lw_tbl := List.mem_of_getElem? (i := 1066) (by decide +kernel)
theorem wi_X10_counts : Cond.instanceMethod yX10_counts ∈ lw_tbl := List.mem_of_getElem? (i := 1068) (by decide +kernel)
theorem wc_X10_counts : Cond.code yX10_counts cX10_counts 2 (Option.some Jvm.ClassFile.FieldType.boolean) ∈ lw_tbl := List.mem_of_getElem? (i := 1069) (by decide +kernel)
theorem wl_X10_77 : Cond.methodLink RX10 77 yX10_ofReading ∈ lw_tbl := List.mem_of_getElem? (i := 1070) (by decide +kernel)
theorem wi_X10_ofReading : Cond.instanceMethod yX10_ofReading ∈ lw_tbl := List.mem_of_getElem? (i := 1072) (by decide +kernel)
theorem wc_X10_ofReading : Cond.code yX10_ofReading cX10_ofReading 3 (Option.some Jvm.ClassFile.FieldType.int) ∈ lw_tbl := List.mem_of_getElem? (i := 1073) (by decide +kernel)
theorem wl_X10_106 : Cond.methodLink RX10 106 yX10_laysTold ∈ lw_tbl := List.mem_of_getElem? (i := 1074) (by decide +kernel)
theorem wi_X10_laysTold : Cond.instanceMethod yX10_laysTold ∈ lw_tbl := List.mem_of_getElem? (i := 1076) (by decide +kernel)
theorem wc_X10_laysTold : Cond.code yX10_laysTold cX10_laysTold 4 (Option.none : Option Jvm.ClassFile.FieldType) ∈ lw_tbl := List.mem_of_getElem? (i := 1077) (by decide +kernel)
theorem wl_X10_96 : Cond.methodLink RX10 96 yX10_reason ∈ lw_tbl := List.mem_of_getElem? (i := 1078) (by decide +kernel)
theorem wi_X10_reason : Cond.instanceMethod yX10_reason ∈ lw_tbl := List.mem_of_getElem? (i := 1080) (by decide +kernel)
theorem wc_X10_reason : Cond.code yX10_reason cX10_reason 4 (Option.some Jvm.ClassFile.FieldType.int) ∈ lw_tbl := List.mem_of_getElem? (i := 1081) (by decide +kernel)
theorem wl_X10_100 : Cond.methodLink RX10 100 yX10_mended ∈ lw_tbl := List.mem_of_getElem? (i := 1082) (by decide +kernel)
theorem wi_X10_mended : Cond.instanceMethod yX10_mended ∈ lw_tbl := List.mem_of_getElem? (i := 1084) (by decide +kernel)
theorem wc_X10_mended : Cond.code yX10_mended cX10_mended 4 (Option.some Jvm.ClassFile.FieldType.int) ∈ lw_tbl := List.mem_of_getElem? (i := 1085) (by decide +kernel)
theorem wl_X10_90 : Cond.methodLink RX10 90 yX10_nearest ∈ lw_tbl := List.mem_of_getElem? (i := 1086) (by decide +kernel)
theorem wi_X10_nearest : Cond.instanceMethod yX10_nearest ∈ lw_tbl := List.mem_of_getElem? (i := 1088) (by decide +kernel)
theorem wc_X10_nearest : Cond.code yX10_nearest cX10_nearest 4 (Option.some Jvm.ClassFile.FieldType.int) ∈ lw_tbl := List.mem_of_getElem? (i := 1089) (by decide +kernel)
theorem wl_X10_163 : Cond.methodLink RX10 163 yX10_flowOf ∈ lw_tbl := List.mem_of_getElem? (i := 1090) (by decide +kernel)
theorem wi_X10_flowOf : Cond.instanceMethod yX10_flowOf ∈ lw_tbl := List.mem_of_getElem? (i := 1092) (by decide +kernel)
theorem wc_X10_flowOf : Cond.code yX10_flowOf cX10_flowOf 5 (Option.some Jvm.ClassFile.FieldType.int) ∈ lw_tbl := List.mem_of_getElem? (i := 1093) (by decide +kernel)
theorem wl_X10_74 : Cond.methodLink RX10 74 yX10_ringFlow ∈ lw_tbl := List.mem_of_getElem? (i := 1094) (by decide +kernel)
theorem wi_X10_ringFlow : Cond.instanceMethod yX10_ringFlow ∈ lw_tbl := List.mem_of_getElem? (i := 1096) (by decide +kernel)
theorem wc_X10_ringFlow : Cond.code yX10_ringFlow cX10_ringFlow 3 (Option.some Jvm.ClassFile.FieldType.int) ∈ lw_tbl := List.mem_of_getElem? (i := 1097) (by decide +kernel)
theorem wl_L_149 : Cond.methodLink RL 149 yX10_reading ∈ lw_tbl := List.mem_of_getElem? (i := 1098) (by decide +kernel)
theorem wi_X10_reading : Cond.instanceMethod yX10_reading ∈ lw_tbl := List.mem_of_getElem? (i := 1099) (by decide +kernel)
theorem ws9_X10_reading : Cond.selects RX10 yX10_reading yX10_reading ∈ lw_tbl := List.mem_of_getElem? (i := 1100) (by decide +kernel)
theorem wc_X10_reading : Cond.code yX10_reading cX10_reading 3 (Option.some Jvm.ClassFile.FieldType.int) ∈ lw_tbl := List.mem_of_getElem? (i := 1101) (by decide +kernel)
theorem wl_X10_169 : Cond.methodLink RX10 169 yX10_tellsReading ∈ lw_tbl := List.mem_of_getElem? (i := 1102) (by decide +kernel)
theorem wi_X10_tellsReading : Cond.instanceMethod yX10_tellsReading ∈ lw_tbl := List.mem_of_getElem? (i := 1104) (by decide +kernel)
theorem wc_X10_tellsReading : Cond.code yX10_tellsReading cX10_tellsReading 3 (Option.some Jvm.ClassFile.FieldType.int) ∈ lw_tbl := List.mem_of_getElem? (i := 1105) (by decide +kernel)
theorem wl_L_152 : Cond.methodLink RL 152 yX10_flow ∈ lw_tbl := List.mem_of_getElem? (i := 1106) (by decide +kernel)
theorem wi_X10_flow : Cond.instanceMethod yX10_flow ∈ lw_tbl := List.mem_of_getElem? (i := 1107) (by decide +kernel)
theorem ws9_X10_flow : Cond.selects RX10 yX10_flow yX10_flow ∈ lw_tbl := List.mem_of_getElem? (i := 1108) (by decide +kernel)
theorem wc_X10_flow : Cond.code yX10_flow cX10_flow 2 (Option.some Jvm.ClassFile.FieldType.int) ∈ lw_tbl := List.mem_of_getElem? (i := 1109) (by decide +kernel)
theorem wl_X10_175 : Cond.methodLink RX10 175 yX10_tellsFlow ∈ lw_tbl := List.mem_of_getElem? (i := 1110) (by decide +kernel)
theorem wi_X10_tellsFlow : Cond.instanceMethod yX10_tellsFlow ∈ lw_tbl := List.mem_of_getElem? (i := 1112) (by decide +kernel)
theorem wc_X10_tellsFlow : Cond.code yX10_tellsFlow cX10_tellsFlow 2 (Option.some Jvm.ClassFile.FieldType.int) ∈ lw_tbl := List.mem_of_getElem? (i := 1113) (by decide +kernel)
theorem wl_X10_172 : Cond.methodLink RX10 172 yX10_trueFlow ∈ lw_tbl := List.mem_of_getElem? (i := 1114) (by decide +kernel)
theorem wi_X10_trueFlow : Cond.instanceMethod yX10_trueFlow ∈ lw_tbl := List.mem_of_getElem? (i := 1116) (by decide +kernel)
theorem wc_X10_trueFlow : Cond.code yX10_trueFlow cX10_trueFlow 4 (Option.some Jvm.ClassFile.FieldType.int) ∈ lw_tbl := List.mem_of_getElem? (i := 1117) (by decide +kernel)
theorem wl_L_155 : Cond.methodLink RL 155 yX10_count ∈ lw_tbl := List.mem_of_getElem? (i := 1118) (by decide +kernel)
theorem wi_X10_count : Cond.instanceMethod yX10_count ∈ lw_tbl := List.mem_of_getElem? (i := 1119) (by decide +kernel)
theorem ws9_X10_count : Cond.selects RX10 yX10_count yX10_count ∈ lw_tbl := List.mem_of_getElem? (i := 1120) (by decide +kernel)
theorem wc_X10_count : Cond.code yX10_count cX10_count 2 (Option.some Jvm.ClassFile.FieldType.int) ∈ lw_tbl := List.mem_of_getElem? (i := 1121) (by decide +kernel)
theorem wl_X10_181 : Cond.methodLink RX10 181 yX10_tellsCount ∈ lw_tbl := List.mem_of_getElem? (i := 1122) (by decide +kernel)
theorem wi_X10_tellsCount : Cond.instanceMethod yX10_tellsCount ∈ lw_tbl := List.mem_of_getElem? (i := 1124) (by decide +kernel)
theorem wc_X10_tellsCount : Cond.code yX10_tellsCount cX10_tellsCount 2 (Option.some Jvm.ClassFile.FieldType.int) ∈ lw_tbl := List.mem_of_getElem? (i := 1125) (by decide +kernel)
theorem wl_X10_178 : Cond.methodLink RX10 178 yX10_holesFor ∈ lw_tbl := List.mem_of_getElem? (i := 1126) (by decide +kernel)
theorem wi_X10_holesFor : Cond.instanceMethod yX10_holesFor ∈ lw_tbl := List.mem_of_getElem? (i := 1128) (by decide +kernel)
theorem wc_X10_holesFor : Cond.code yX10_holesFor cX10_holesFor 4 (Option.some Jvm.ClassFile.FieldType.int) ∈ lw_tbl := List.mem_of_getElem? (i := 1129) (by decide +kernel)
theorem wl_L_158 : Cond.methodLink RL 158 yX10_setting ∈ lw_tbl := List.mem_of_getElem? (i := 1130) (by decide +kernel)
theorem wi_X10_setting : Cond.instanceMethod yX10_setting ∈ lw_tbl := List.mem_of_getElem? (i := 1131) (by decide +kernel)
theorem ws9_X10_setting : Cond.selects RX10 yX10_setting yX10_setting ∈ lw_tbl := List.mem_of_getElem? (i := 1132) (by decide +kernel)
theorem wc_X10_setting : Cond.code yX10_setting cX10_setting 2 (Option.some Jvm.ClassFile.FieldType.int) ∈ lw_tbl := List.mem_of_getElem? (i := 1133) (by decide +kernel)
theorem wl_L_161 : Cond.methodLink RL 161 yX10_ifRight ∈ lw_tbl := List.mem_of_getElem? (i := 1134) (by decide +kernel)
theorem wi_X10_ifRight : Cond.instanceMethod yX10_ifRight ∈ lw_tbl := List.mem_of_getElem? (i := 1135) (by decide +kernel)
theorem ws9_X10_ifRight : Cond.selects RX10 yX10_ifRight yX10_ifRight ∈ lw_tbl := List.mem_of_getElem? (i := 1136) (by decide +kernel)
theorem wc_X10_ifRight : Cond.code yX10_ifRight cX10_ifRight 2 (Option.some Jvm.ClassFile.FieldType.int) ∈ lw_tbl := List.mem_of_getElem? (i := 1137) (by decide +kernel)
theorem wl_X10_184 : Cond.methodLink RX10 184 yX10_wholeIfRight ∈ lw_tbl := List.mem_of_getElem? (i := 1138) (by decide +kernel)
theorem wi_X10_wholeIfRight : Cond.instanceMethod yX10_wholeIfRight ∈ lw_tbl := List.mem_of_getElem? (i := 1140) (by decide +kernel)
theorem wc_X10_wholeIfRight : Cond.code yX10_wholeIfRight cX10_wholeIfRight 2 (Option.some Jvm.ClassFile.FieldType.int) ∈ lw_tbl := List.mem_of_getElem? (i := 1141) (by decide +kernel)
theorem wl_L_165 : Cond.methodLink RL 165 yX10_worst ∈ lw_tbl := List.mem_of_getElem? (i := 1142) (by decide +kernel)
theorem wi_X10_worst : Cond.instanceMethod yX10_worst ∈ lw_tbl := List.mem_of_getElem? (i := 1143) (by decide +kernel)
theorem ws9_X10_worst : Cond.selects RX10 yX10_worst yX10_worst ∈ lw_tbl := List.mem_of_getElem? (i := 1144) (by decide +kernel)
theorem wc_X10_worst : Cond.code yX10_worst cX10_worst 1 (Option.some Jvm.ClassFile.FieldType.int) ∈ lw_tbl := List.mem_of_getElem? (i := 1145) (by decide +kernel)
theorem wl_X10_187 : Cond.methodLink RX10 187 yX10_worstOne ∈ lw_tbl := List.mem_of_getElem? (i := 1146) (by decide +kernel)
theorem wi_X10_worstOne : Cond.instanceMethod yX10_worstOne ∈ lw_tbl := List.mem_of_getElem? (i := 1148) (by decide +kernel)
theorem wc_X10_worstOne : Cond.code yX10_worstOne cX10_worstOne 8 (Option.some Jvm.ClassFile.FieldType.int) ∈ lw_tbl := List.mem_of_getElem? (i := 1149) (by decide +kernel)
theorem wl_L_168 : Cond.methodLink RL 168 yX10_ifRake ∈ lw_tbl := List.mem_of_getElem? (i := 1150) (by decide +kernel)
theorem wi_X10_ifRake : Cond.instanceMethod yX10_ifRake ∈ lw_tbl := List.mem_of_getElem? (i := 1151) (by decide +kernel)
theorem ws9_X10_ifRake : Cond.selects RX10 yX10_ifRake yX10_ifRake ∈ lw_tbl := List.mem_of_getElem? (i := 1152) (by decide +kernel)
theorem wc_X10_ifRake : Cond.code yX10_ifRake cX10_ifRake 2 (Option.some Jvm.ClassFile.FieldType.int) ∈ lw_tbl := List.mem_of_getElem? (i := 1153) (by decide +kernel)
theorem wl_L_171 : Cond.methodLink RL 171 yX10_fineRake ∈ lw_tbl := List.mem_of_getElem? (i := 1154) (by decide +kernel)
theorem wi_X10_fineRake : Cond.instanceMethod yX10_fineRake ∈ lw_tbl := List.mem_of_getElem? (i := 1155) (by decide +kernel)
theorem ws9_X10_fineRake : Cond.selects RX10 yX10_fineRake yX10_fineRake ∈ lw_tbl := List.mem_of_getElem? (i := 1156) (by decide +kernel)
theorem wc_X10_fineRake : Cond.code yX10_fineRake cX10_fineRake 2 (Option.some Jvm.ClassFile.FieldType.int) ∈ lw_tbl := List.mem_of_getElem? (i := 1157) (by decide +kernel)
theorem wl_X10_190 : Cond.methodLink RX10 190 yX10_fine ∈ lw_tbl := List.mem_of_getElem? (i := 1158) (by decide +kernel)
theorem wi_X10_fine : Cond.instanceMethod yX10_fine ∈ lw_tbl := List.mem_of_getElem? (i := 1160) (by decide +kernel)
theorem wc_X10_fine : Cond.code yX10_fine cX10_fine 4 (Option.some Jvm.ClassFile.FieldType.int) ∈ lw_tbl := List.mem_of_getElem? (i := 1161) (by decide +kernel)
theorem wl_L_176 : Cond.methodLink RL 176 yX10_evenness ∈ lw_tbl := List.mem_of_getElem? (i := 1162) (by decide +kernel)
theorem wi_X10_evenness : Cond.instanceMethod yX10_evenness ∈ lw_tbl := List.mem_of_getElem? (i := 1163) (by decide +kernel)
theorem ws9_X10_evenness : Cond.selects RX10 yX10_evenness yX10_evenness ∈ lw_tbl := List.mem_of_getElem? (i := 1164) (by decide +kernel)
theorem wc_X10_evenness : Cond.code yX10_evenness cX10_evenness 1 (Option.some Jvm.ClassFile.FieldType.double) ∈ lw_tbl := List.mem_of_getElem? (i := 1165) (by decide +kernel)
theorem wl_X10_193 : Cond.methodLink RX10 193 yX10_even ∈ lw_tbl := List.mem_of_getElem? (i := 1166) (by decide +kernel)
theorem wi_X10_even : Cond.instanceMethod yX10_even ∈ lw_tbl := List.mem_of_getElem? (i := 1168) (by decide +kernel)
theorem wc_X10_even : Cond.code yX10_even cX10_even 4 (Option.some Jvm.ClassFile.FieldType.double) ∈ lw_tbl := List.mem_of_getElem? (i := 1169) (by decide +kernel)
theorem wl_L_181 : Cond.methodLink RL 181 yX10_digest ∈ lw_tbl := List.mem_of_getElem? (i := 1170) (by decide +kernel)
theorem wi_X10_digest : Cond.instanceMethod yX10_digest ∈ lw_tbl := List.mem_of_getElem? (i := 1171) (by decide +kernel)
theorem ws9_X10_digest : Cond.selects RX10 yX10_digest yX10_digest ∈ lw_tbl := List.mem_of_getElem? (i := 1172) (by decide +kernel)
theorem wc_X10_digest : Cond.code yX10_digest cX10_digest 2 (Option.some Jvm.ClassFile.FieldType.long) ∈ lw_tbl := List.mem_of_getElem? (i := 1173) (by decide +kernel)
theorem wq_X10_207 : Cond.constantLong RX10 207 (3167) ∈ lw_tbl := List.mem_of_getElem? (i := 1174) (by decide +kernel)
theorem wl_X10_203 : Cond.methodLink RX10 203 yX10_hashes ∈ lw_tbl := List.mem_of_getElem? (i := 1175) (by decide +kernel)
theorem wi_X10_hashes : Cond.instanceMethod yX10_hashes ∈ lw_tbl := List.mem_of_getElem? (i := 1177) (by decide +kernel)
theorem wc_X10_hashes : Cond.code yX10_hashes cX10_hashes 3 (Option.none : Option Jvm.ClassFile.FieldType) ∈ lw_tbl := List.mem_of_getElem? (i := 1178) (by decide +kernel)
theorem wq_X10_197 : Cond.constantLong RX10 197 (31) ∈ lw_tbl := List.mem_of_getElem? (i := 1179) (by decide +kernel)
theorem wl_X10_209 : Cond.methodLink RX10 209 yX10_hashesHole ∈ lw_tbl := List.mem_of_getElem? (i := 1180) (by decide +kernel)
theorem wi_X10_hashesHole : Cond.instanceMethod yX10_hashesHole ∈ lw_tbl := List.mem_of_getElem? (i := 1182) (by decide +kernel)
theorem wc_X10_hashesHole : Cond.code yX10_hashesHole cX10_hashesHole 3 (Option.none : Option Jvm.ClassFile.FieldType) ∈ lw_tbl := List.mem_of_getElem? (i := 1183) (by decide +kernel)
theorem wl_X10_212 : Cond.methodLink RX10 212 yJxe99ae_doubleToLongBits_ccdee ∈ lw_tbl := List.mem_of_getElem? (i := 1184) (by decide +kernel)
theorem wt_Jxe99ae_doubleToLongBits_ccdee : Cond.static yJxe99ae_doubleToLongBits_ccdee ∈ lw_tbl := List.mem_of_getElem? (i := 1185) (by decide +kernel)
theorem wc_Jxe99ae_doubleToLongBits_ccdee : Cond.code yJxe99ae_doubleToLongBits_ccdee cJxe99ae_doubleToLongBits_ccdee 2 (Option.some Jvm.ClassFile.FieldType.long) ∈ lw_tbl := List.mem_of_getElem? (i := 1186) (by decide +kernel)
theorem wl_Jxe99ae_122 : Cond.methodLink RJxe99ae 122 yJxe99ae_isNaN_b9ae7 ∈ lw_tbl := List.mem_of_getElem? (i := 1187) (by decide +kernel)
theorem wt_Jxe99ae_isNaN_b9ae7 : Cond.static yJxe99ae_isNaN_b9ae7 ∈ lw_tbl := List.mem_of_getElem? (i := 1188) (by decide +kernel)
theorem wc_Jxe99ae_isNaN_b9ae7 : Cond.code yJxe99ae_isNaN_b9ae7 cJxe99ae_isNaN_b9ae7 2 (Option.some Jvm.ClassFile.FieldType.boolean) ∈ lw_tbl := List.mem_of_getElem? (i := 1189) (by decide +kernel)
theorem wl_Jxe99ae_134 : Cond.methodLink RJxe99ae 134 ⟨"java/lang/Double", "doubleToRawLongBits", "(D)J"⟩ ∈ lw_tbl := List.mem_of_getElem? (i := 1190) (by decide +kernel)
theorem wq_Jxe99ae_137 : Cond.constantLong RJxe99ae 137 (9221120237041090560) ∈ lw_tbl := List.mem_of_getElem? (i := 1193) (by decide +kernel)
theorem wa_long : Cond.arrayClass Jvm.ClassFile.FieldType.long ∈ lw_tbl := List.mem_of_getElem? (i := 1194) (by decide +kernel)
end
section
set_option maxRecDepth 20000 in
theorem inX1 : ∀ w ∈ wsX10, w ∈ lw_tbl := by decide +kernel
set_option maxRecDepth 20000 in
theorem inX3 : ∀ w ∈ wsX30, w ∈ lw_tbl := by decide +kernel
set_option maxRecDepth 20000 in
theorem inX4 : ∀ w ∈ wsX40, w ∈ lw_tbl := by decide +kernel
set_option maxRecDepth 20000 in
theorem inX5 : ∀ w ∈ wsX50, w ∈ lw_tbl := by decide +kernel
set_option maxRecDepth 20000 in
theorem inX6 : ∀ w ∈ wsX60, w ∈ lw_tbl := by decide +kernel
set_option maxRecDepth 20000 in
theorem inX7 : ∀ w ∈ wsX70, w ∈ lw_tbl := by decide +kernel
set_option maxRecDepth 20000 in
theorem inX9 : ∀ w ∈ wsX90, w ∈ lw_tbl := by decide +kernel
set_option maxRecDepth 20000 in
theorem inX10 : ∀ w ∈ wsX100, w ∈ lw_tbl := by decide +kernel
end
section
theorem dX0_quotient_0 : decode cX0_quotient 0 = .ok (.iload_n 1, 1) := by decide +kernel
theorem dX0_quotient_1 : decode cX0_quotient 1 = .ok (.ifCond .ne 7, 3) := by decide +kernel
theorem dX0_quotient_4 : decode cX0_quotient 4 = .ok (.iconst 0, 1) := by decide +kernel
theorem dX0_quotient_5 : decode cX0_quotient 5 = .ok (.goto 6, 3) := by decide +kernel
theorem dX0_quotient_8 : decode cX0_quotient 8 = .ok (.iload_n 0, 1) := by decide +kernel
theorem dX0_quotient_9 : decode cX0_quotient 9 = .ok (.iload_n 1, 1) := by decide +kernel
theorem dX0_quotient_10 : decode cX0_quotient 10 = .ok (.idiv, 1) := by decide +kernel
theorem dX0_quotient_11 : decode cX0_quotient 11 = .ok (.ireturn, 1) := by decide +kernel
theorem dX0_wholeRoot_0 : decode cX0_wholeRoot 0 = .ok (.lconst 0, 1) := by decide +kernel
theorem dX0_wholeRoot_1 : decode cX0_wholeRoot 1 = .ok (.lstore_n 1, 1) := by decide +kernel
theorem dX0_wholeRoot_2 : decode cX0_wholeRoot 2 = .ok (.bipush 15, 2) := by decide +kernel
theorem dX0_wholeRoot_4 : decode cX0_wholeRoot 4 = .ok (.istore_n 3, 1) := by decide +kernel
theorem dX0_wholeRoot_5 : decode cX0_wholeRoot 5 = .ok (.iload_n 3, 1) := by decide +kernel
theorem dX0_wholeRoot_6 : decode cX0_wholeRoot 6 = .ok (.ifCond .lt 30, 3) := by decide +kernel
theorem dX0_wholeRoot_9 : decode cX0_wholeRoot 9 = .ok (.lload_n 1, 1) := by decide +kernel
theorem dX0_wholeRoot_10 : decode cX0_wholeRoot 10 = .ok (.lconst 1, 1) := by decide +kernel
theorem dX0_wholeRoot_11 : decode cX0_wholeRoot 11 = .ok (.iload_n 3, 1) := by decide +kernel
theorem dX0_wholeRoot_12 : decode cX0_wholeRoot 12 = .ok (.lshl, 1) := by decide +kernel
theorem dX0_wholeRoot_13 : decode cX0_wholeRoot 13 = .ok (.ladd, 1) := by decide +kernel
theorem dX0_wholeRoot_14 : decode cX0_wholeRoot 14 = .ok (.lstore 4, 2) := by decide +kernel
theorem dX0_wholeRoot_16 : decode cX0_wholeRoot 16 = .ok (.lload 4, 2) := by decide +kernel
theorem dX0_wholeRoot_18 : decode cX0_wholeRoot 18 = .ok (.lload 4, 2) := by decide +kernel
theorem dX0_wholeRoot_20 : decode cX0_wholeRoot 20 = .ok (.lmul, 1) := by decide +kernel
theorem dX0_wholeRoot_21 : decode cX0_wholeRoot 21 = .ok (.iload_n 0, 1) := by decide +kernel
theorem dX0_wholeRoot_22 : decode cX0_wholeRoot 22 = .ok (.i2l, 1) := by decide +kernel
theorem dX0_wholeRoot_23 : decode cX0_wholeRoot 23 = .ok (.lcmp, 1) := by decide +kernel
theorem dX0_wholeRoot_24 : decode cX0_wholeRoot 24 = .ok (.ifCond .gt 6, 3) := by decide +kernel
theorem dX0_wholeRoot_27 : decode cX0_wholeRoot 27 = .ok (.lload 4, 2) := by decide +kernel
theorem dX0_wholeRoot_29 : decode cX0_wholeRoot 29 = .ok (.lstore_n 1, 1) := by decide +kernel
theorem dX0_wholeRoot_30 : decode cX0_wholeRoot 30 = .ok (.iinc 3 (-1), 3) := by decide +kernel
theorem dX0_wholeRoot_33 : decode cX0_wholeRoot 33 = .ok (.goto (-28), 3) := by decide +kernel
theorem dX0_wholeRoot_36 : decode cX0_wholeRoot 36 = .ok (.lload_n 1, 1) := by decide +kernel
theorem dX0_wholeRoot_37 : decode cX0_wholeRoot 37 = .ok (.l2i, 1) := by decide +kernel
theorem dX0_wholeRoot_38 : decode cX0_wholeRoot 38 = .ok (.ireturn, 1) := by decide +kernel
theorem dX0_bitsOfShare_0 : decode cX0_bitsOfShare 0 = .ok (.dload_n 0, 1) := by decide +kernel
theorem dX0_bitsOfShare_1 : decode cX0_bitsOfShare 1 = .ok (.dconst 0, 1) := by decide +kernel
theorem dX0_bitsOfShare_2 : decode cX0_bitsOfShare 2 = .ok (.dcmp .g, 1) := by decide +kernel
theorem dX0_bitsOfShare_3 : decode cX0_bitsOfShare 3 = .ok (.ifCond .gt 5, 3) := by decide +kernel
theorem dX0_bitsOfShare_6 : decode cX0_bitsOfShare 6 = .ok (.lconst 0, 1) := by decide +kernel
theorem dX0_bitsOfShare_7 : decode cX0_bitsOfShare 7 = .ok (.lreturn, 1) := by decide +kernel
theorem dX0_bitsOfShare_8 : decode cX0_bitsOfShare 8 = .ok (.dload_n 0, 1) := by decide +kernel
theorem dX0_bitsOfShare_9 : decode cX0_bitsOfShare 9 = .ok (.dstore_n 2, 1) := by decide +kernel
theorem dX0_bitsOfShare_10 : decode cX0_bitsOfShare 10 = .ok (.ldc2_w 7, 3) := by decide +kernel
theorem dX0_bitsOfShare_13 : decode cX0_bitsOfShare 13 = .ok (.lstore 4, 2) := by decide +kernel
theorem dX0_bitsOfShare_15 : decode cX0_bitsOfShare 15 = .ok (.iconst 0, 1) := by decide +kernel
theorem dX0_bitsOfShare_16 : decode cX0_bitsOfShare 16 = .ok (.istore 6, 2) := by decide +kernel
theorem dX0_bitsOfShare_18 : decode cX0_bitsOfShare 18 = .ok (.iload 6, 2) := by decide +kernel
theorem dX0_bitsOfShare_20 : decode cX0_bitsOfShare 20 = .ok (.sipush 1022, 3) := by decide +kernel
theorem dX0_bitsOfShare_23 : decode cX0_bitsOfShare 23 = .ok (.if_icmp .ge 27, 3) := by decide +kernel
theorem dX0_bitsOfShare_26 : decode cX0_bitsOfShare 26 = .ok (.dload_n 2, 1) := by decide +kernel
theorem dX0_bitsOfShare_27 : decode cX0_bitsOfShare 27 = .ok (.dconst 1, 1) := by decide +kernel
theorem dX0_bitsOfShare_28 : decode cX0_bitsOfShare 28 = .ok (.dcmp .g, 1) := by decide +kernel
theorem dX0_bitsOfShare_29 : decode cX0_bitsOfShare 29 = .ok (.ifCond .ge 21, 3) := by decide +kernel
theorem dX0_bitsOfShare_32 : decode cX0_bitsOfShare 32 = .ok (.dload_n 2, 1) := by decide +kernel
theorem dX0_bitsOfShare_33 : decode cX0_bitsOfShare 33 = .ok (.ldc2_w 9, 3) := by decide +kernel
theorem dX0_bitsOfShare_36 : decode cX0_bitsOfShare 36 = .ok (.dmul, 1) := by decide +kernel
theorem dX0_bitsOfShare_37 : decode cX0_bitsOfShare 37 = .ok (.dstore_n 2, 1) := by decide +kernel
theorem dX0_bitsOfShare_38 : decode cX0_bitsOfShare 38 = .ok (.lload 4, 2) := by decide +kernel
theorem dX0_bitsOfShare_40 : decode cX0_bitsOfShare 40 = .ok (.lconst 1, 1) := by decide +kernel
theorem dX0_bitsOfShare_41 : decode cX0_bitsOfShare 41 = .ok (.lsub, 1) := by decide +kernel
theorem dX0_bitsOfShare_42 : decode cX0_bitsOfShare 42 = .ok (.lstore 4, 2) := by decide +kernel
theorem dX0_bitsOfShare_44 : decode cX0_bitsOfShare 44 = .ok (.iinc 6 1, 3) := by decide +kernel
theorem dX0_bitsOfShare_47 : decode cX0_bitsOfShare 47 = .ok (.goto (-29), 3) := by decide +kernel
theorem dX0_bitsOfShare_50 : decode cX0_bitsOfShare 50 = .ok (.dload_n 2, 1) := by decide +kernel
theorem dX0_bitsOfShare_51 : decode cX0_bitsOfShare 51 = .ok (.dconst 1, 1) := by decide +kernel
theorem dX0_bitsOfShare_52 : decode cX0_bitsOfShare 52 = .ok (.dsub, 1) := by decide +kernel
theorem dX0_bitsOfShare_53 : decode cX0_bitsOfShare 53 = .ok (.ldc2_w 11, 3) := by decide +kernel
theorem dX0_bitsOfShare_56 : decode cX0_bitsOfShare 56 = .ok (.dmul, 1) := by decide +kernel
theorem dX0_bitsOfShare_57 : decode cX0_bitsOfShare 57 = .ok (.d2l, 1) := by decide +kernel
theorem dX0_bitsOfShare_58 : decode cX0_bitsOfShare 58 = .ok (.lstore 6, 2) := by decide +kernel
theorem dX0_bitsOfShare_60 : decode cX0_bitsOfShare 60 = .ok (.lload 4, 2) := by decide +kernel
theorem dX0_bitsOfShare_62 : decode cX0_bitsOfShare 62 = .ok (.bipush 52, 2) := by decide +kernel
theorem dX0_bitsOfShare_64 : decode cX0_bitsOfShare 64 = .ok (.lshl, 1) := by decide +kernel
theorem dX0_bitsOfShare_65 : decode cX0_bitsOfShare 65 = .ok (.lload 6, 2) := by decide +kernel
theorem dX0_bitsOfShare_67 : decode cX0_bitsOfShare 67 = .ok (.ladd, 1) := by decide +kernel
theorem dX0_bitsOfShare_68 : decode cX0_bitsOfShare 68 = .ok (.lreturn, 1) := by decide +kernel
theorem dX1_init_0 : decode cX1_init 0 = .ok (.aload_n 0, 1) := by decide +kernel
theorem dX1_init_1 : decode cX1_init 1 = .ok (.invokespecial 3, 3) := by decide +kernel
theorem dX1_init_4 : decode cX1_init 4 = .ok (.aload_n 0, 1) := by decide +kernel
theorem dX1_init_5 : decode cX1_init 5 = .ok (.bipush 96, 2) := by decide +kernel
theorem dX1_init_7 : decode cX1_init 7 = .ok (.newarray .int, 2) := by decide +kernel
theorem dX1_init_9 : decode cX1_init 9 = .ok (.putfield 9, 3) := by decide +kernel
theorem dX1_init_12 : decode cX1_init 12 = .ok (.aload_n 0, 1) := by decide +kernel
theorem dX1_init_13 : decode cX1_init 13 = .ok (.bipush 12, 2) := by decide +kernel
theorem dX1_init_15 : decode cX1_init 15 = .ok (.newarray .int, 2) := by decide +kernel
theorem dX1_init_17 : decode cX1_init 17 = .ok (.putfield 15, 3) := by decide +kernel
theorem dX1_init_20 : decode cX1_init 20 = .ok (.aload_n 0, 1) := by decide +kernel
theorem dX1_init_21 : decode cX1_init 21 = .ok (.bipush 12, 2) := by decide +kernel
theorem dX1_init_23 : decode cX1_init 23 = .ok (.newarray .int, 2) := by decide +kernel
theorem dX1_init_25 : decode cX1_init 25 = .ok (.putfield 18, 3) := by decide +kernel
theorem dX1_init_28 : decode cX1_init 28 = .ok (.return_, 1) := by decide +kernel
theorem dX1_become_0 : decode cX1_become 0 = .ok (.aload_n 1, 1) := by decide +kernel
theorem dX1_become_1 : decode cX1_become 1 = .ok (.getfield 9, 3) := by decide +kernel
theorem dX1_become_4 : decode cX1_become 4 = .ok (.aload_n 0, 1) := by decide +kernel
theorem dX1_become_5 : decode cX1_become 5 = .ok (.getfield 9, 3) := by decide +kernel
theorem dX1_become_8 : decode cX1_become 8 = .ok (.invokestatic 21, 3) := by decide +kernel
theorem dX1_become_11 : decode cX1_become 11 = .ok (.aload_n 1, 1) := by decide +kernel
theorem dX1_become_12 : decode cX1_become 12 = .ok (.getfield 15, 3) := by decide +kernel
theorem dX1_become_15 : decode cX1_become 15 = .ok (.aload_n 0, 1) := by decide +kernel
theorem dX1_become_16 : decode cX1_become 16 = .ok (.getfield 15, 3) := by decide +kernel
theorem dX1_become_19 : decode cX1_become 19 = .ok (.invokestatic 21, 3) := by decide +kernel
theorem dX1_become_22 : decode cX1_become 22 = .ok (.aload_n 1, 1) := by decide +kernel
theorem dX1_become_23 : decode cX1_become 23 = .ok (.getfield 18, 3) := by decide +kernel
theorem dX1_become_26 : decode cX1_become 26 = .ok (.aload_n 0, 1) := by decide +kernel
theorem dX1_become_27 : decode cX1_become 27 = .ok (.getfield 18, 3) := by decide +kernel
theorem dX1_become_30 : decode cX1_become 30 = .ok (.invokestatic 21, 3) := by decide +kernel
theorem dX1_become_33 : decode cX1_become 33 = .ok (.aload_n 0, 1) := by decide +kernel
theorem dX1_become_34 : decode cX1_become 34 = .ok (.aload_n 1, 1) := by decide +kernel
theorem dX1_become_35 : decode cX1_become 35 = .ok (.getfield 27, 3) := by decide +kernel
theorem dX1_become_38 : decode cX1_become 38 = .ok (.putfield 27, 3) := by decide +kernel
theorem dX1_become_41 : decode cX1_become 41 = .ok (.return_, 1) := by decide +kernel
theorem dX1_headOf_0 : decode cX1_headOf 0 = .ok (.aload_n 0, 1) := by decide +kernel
theorem dX1_headOf_1 : decode cX1_headOf 1 = .ok (.getfield 9, 3) := by decide +kernel
theorem dX1_headOf_4 : decode cX1_headOf 4 = .ok (.iload_n 1, 1) := by decide +kernel
theorem dX1_headOf_5 : decode cX1_headOf 5 = .ok (.bipush 8, 2) := by decide +kernel
theorem dX1_headOf_7 : decode cX1_headOf 7 = .ok (.imul, 1) := by decide +kernel
theorem dX1_headOf_8 : decode cX1_headOf 8 = .ok (.iload_n 2, 1) := by decide +kernel
theorem dX1_headOf_9 : decode cX1_headOf 9 = .ok (.iadd, 1) := by decide +kernel
theorem dX1_headOf_10 : decode cX1_headOf 10 = .ok (.invokestatic 31, 3) := by decide +kernel
theorem dX1_headOf_13 : decode cX1_headOf 13 = .ok (.ireturn, 1) := by decide +kernel
theorem dX1_isCounting_0 : decode cX1_isCounting 0 = .ok (.aload_n 0, 1) := by decide +kernel
theorem dX1_isCounting_1 : decode cX1_isCounting 1 = .ok (.getfield 15, 3) := by decide +kernel
theorem dX1_isCounting_4 : decode cX1_isCounting 4 = .ok (.iload_n 1, 1) := by decide +kernel
theorem dX1_isCounting_5 : decode cX1_isCounting 5 = .ok (.invokestatic 31, 3) := by decide +kernel
theorem dX1_isCounting_8 : decode cX1_isCounting 8 = .ok (.iload_n 2, 1) := by decide +kernel
theorem dX1_isCounting_9 : decode cX1_isCounting 9 = .ok (.if_icmp .ne 19, 3) := by decide +kernel
theorem dX1_isCounting_12 : decode cX1_isCounting 12 = .ok (.aload_n 0, 1) := by decide +kernel
theorem dX1_isCounting_13 : decode cX1_isCounting 13 = .ok (.getfield 18, 3) := by decide +kernel
theorem dX1_isCounting_16 : decode cX1_isCounting 16 = .ok (.iload_n 1, 1) := by decide +kernel
theorem dX1_isCounting_17 : decode cX1_isCounting 17 = .ok (.invokestatic 31, 3) := by decide +kernel
theorem dX1_isCounting_20 : decode cX1_isCounting 20 = .ok (.iload_n 3, 1) := by decide +kernel
theorem dX1_isCounting_21 : decode cX1_isCounting 21 = .ok (.if_icmp .ne 7, 3) := by decide +kernel
theorem dX1_isCounting_24 : decode cX1_isCounting 24 = .ok (.iconst 1, 1) := by decide +kernel
theorem dX1_isCounting_25 : decode cX1_isCounting 25 = .ok (.goto 4, 3) := by decide +kernel
theorem dX1_isCounting_28 : decode cX1_isCounting 28 = .ok (.iconst 0, 1) := by decide +kernel
theorem dX1_isCounting_29 : decode cX1_isCounting 29 = .ok (.ireturn, 1) := by decide +kernel
theorem dX1_add_0 : decode cX1_add 0 = .ok (.aload_n 0, 1) := by decide +kernel
theorem dX1_add_1 : decode cX1_add 1 = .ok (.getfield 27, 3) := by decide +kernel
theorem dX1_add_4 : decode cX1_add 4 = .ok (.bipush 12, 2) := by decide +kernel
theorem dX1_add_6 : decode cX1_add 6 = .ok (.if_icmp .lt 8, 3) := by decide +kernel
theorem dX1_add_9 : decode cX1_add 9 = .ok (.aload_n 0, 1) := by decide +kernel
theorem dX1_add_10 : decode cX1_add 10 = .ok (.iconst 0, 1) := by decide +kernel
theorem dX1_add_11 : decode cX1_add 11 = .ok (.invokevirtual 35, 3) := by decide +kernel
theorem dX1_add_14 : decode cX1_add 14 = .ok (.iconst 0, 1) := by decide +kernel
theorem dX1_add_15 : decode cX1_add 15 = .ok (.istore 4, 2) := by decide +kernel
theorem dX1_add_17 : decode cX1_add 17 = .ok (.iload 4, 2) := by decide +kernel
theorem dX1_add_19 : decode cX1_add 19 = .ok (.iload_n 2, 1) := by decide +kernel
theorem dX1_add_20 : decode cX1_add 20 = .ok (.if_icmp .ge 32, 3) := by decide +kernel
theorem dX1_add_23 : decode cX1_add 23 = .ok (.aload_n 0, 1) := by decide +kernel
theorem dX1_add_24 : decode cX1_add 24 = .ok (.getfield 9, 3) := by decide +kernel
theorem dX1_add_27 : decode cX1_add 27 = .ok (.aload_n 0, 1) := by decide +kernel
theorem dX1_add_28 : decode cX1_add 28 = .ok (.getfield 27, 3) := by decide +kernel
theorem dX1_add_31 : decode cX1_add 31 = .ok (.bipush 8, 2) := by decide +kernel
theorem dX1_add_33 : decode cX1_add 33 = .ok (.imul, 1) := by decide +kernel
theorem dX1_add_34 : decode cX1_add 34 = .ok (.iload 4, 2) := by decide +kernel
theorem dX1_add_36 : decode cX1_add 36 = .ok (.iadd, 1) := by decide +kernel
theorem dX1_add_37 : decode cX1_add 37 = .ok (.aload_n 1, 1) := by decide +kernel
theorem dX1_add_38 : decode cX1_add 38 = .ok (.iload 4, 2) := by decide +kernel
theorem dX1_add_40 : decode cX1_add 40 = .ok (.invokestatic 31, 3) := by decide +kernel
theorem dX1_add_43 : decode cX1_add 43 = .ok (.invokestatic 39, 3) := by decide +kernel
theorem dX1_add_46 : decode cX1_add 46 = .ok (.iinc 4 1, 3) := by decide +kernel
theorem dX1_add_49 : decode cX1_add 49 = .ok (.goto (-32), 3) := by decide +kernel
theorem dX1_add_52 : decode cX1_add 52 = .ok (.aload_n 0, 1) := by decide +kernel
theorem dX1_add_53 : decode cX1_add 53 = .ok (.getfield 15, 3) := by decide +kernel
theorem dX1_add_56 : decode cX1_add 56 = .ok (.aload_n 0, 1) := by decide +kernel
theorem dX1_add_57 : decode cX1_add 57 = .ok (.getfield 27, 3) := by decide +kernel
theorem dX1_add_60 : decode cX1_add 60 = .ok (.iload_n 2, 1) := by decide +kernel
theorem dX1_add_61 : decode cX1_add 61 = .ok (.invokestatic 39, 3) := by decide +kernel
theorem dX1_add_64 : decode cX1_add 64 = .ok (.aload_n 0, 1) := by decide +kernel
theorem dX1_add_65 : decode cX1_add 65 = .ok (.getfield 18, 3) := by decide +kernel
theorem dX1_add_68 : decode cX1_add 68 = .ok (.aload_n 0, 1) := by decide +kernel
theorem dX1_add_69 : decode cX1_add 69 = .ok (.getfield 27, 3) := by decide +kernel
theorem dX1_add_72 : decode cX1_add 72 = .ok (.iload_n 3, 1) := by decide +kernel
theorem dX1_add_73 : decode cX1_add 73 = .ok (.invokestatic 39, 3) := by decide +kernel
theorem dX1_add_76 : decode cX1_add 76 = .ok (.aload_n 0, 1) := by decide +kernel
theorem dX1_add_77 : decode cX1_add 77 = .ok (.dup, 1) := by decide +kernel
theorem dX1_add_78 : decode cX1_add 78 = .ok (.getfield 27, 3) := by decide +kernel
theorem dX1_add_81 : decode cX1_add 81 = .ok (.iconst 1, 1) := by decide +kernel
theorem dX1_add_82 : decode cX1_add 82 = .ok (.iadd, 1) := by decide +kernel
theorem dX1_add_83 : decode cX1_add 83 = .ok (.putfield 27, 3) := by decide +kernel
theorem dX1_add_86 : decode cX1_add 86 = .ok (.return_, 1) := by decide +kernel
theorem dX1_remove_0 : decode cX1_remove 0 = .ok (.iload_n 1, 1) := by decide +kernel
theorem dX1_remove_1 : decode cX1_remove 1 = .ok (.istore_n 2, 1) := by decide +kernel
theorem dX1_remove_2 : decode cX1_remove 2 = .ok (.iload_n 2, 1) := by decide +kernel
theorem dX1_remove_3 : decode cX1_remove 3 = .ok (.iconst 1, 1) := by decide +kernel
theorem dX1_remove_4 : decode cX1_remove 4 = .ok (.iadd, 1) := by decide +kernel
theorem dX1_remove_5 : decode cX1_remove 5 = .ok (.aload_n 0, 1) := by decide +kernel
theorem dX1_remove_6 : decode cX1_remove 6 = .ok (.getfield 27, 3) := by decide +kernel
theorem dX1_remove_9 : decode cX1_remove 9 = .ok (.if_icmp .ge 80, 3) := by decide +kernel
theorem dX1_remove_12 : decode cX1_remove 12 = .ok (.iconst 0, 1) := by decide +kernel
theorem dX1_remove_13 : decode cX1_remove 13 = .ok (.istore_n 3, 1) := by decide +kernel
theorem dX1_remove_14 : decode cX1_remove 14 = .ok (.iload_n 3, 1) := by decide +kernel
theorem dX1_remove_15 : decode cX1_remove 15 = .ok (.bipush 8, 2) := by decide +kernel
theorem dX1_remove_17 : decode cX1_remove 17 = .ok (.if_icmp .ge 30, 3) := by decide +kernel
theorem dX1_remove_20 : decode cX1_remove 20 = .ok (.aload_n 0, 1) := by decide +kernel
theorem dX1_remove_21 : decode cX1_remove 21 = .ok (.getfield 9, 3) := by decide +kernel
theorem dX1_remove_24 : decode cX1_remove 24 = .ok (.iload_n 2, 1) := by decide +kernel
theorem dX1_remove_25 : decode cX1_remove 25 = .ok (.bipush 8, 2) := by decide +kernel
theorem dX1_remove_27 : decode cX1_remove 27 = .ok (.imul, 1) := by decide +kernel
theorem dX1_remove_28 : decode cX1_remove 28 = .ok (.iload_n 3, 1) := by decide +kernel
theorem dX1_remove_29 : decode cX1_remove 29 = .ok (.iadd, 1) := by decide +kernel
theorem dX1_remove_30 : decode cX1_remove 30 = .ok (.aload_n 0, 1) := by decide +kernel
theorem dX1_remove_31 : decode cX1_remove 31 = .ok (.iload_n 2, 1) := by decide +kernel
theorem dX1_remove_32 : decode cX1_remove 32 = .ok (.iconst 1, 1) := by decide +kernel
theorem dX1_remove_33 : decode cX1_remove 33 = .ok (.iadd, 1) := by decide +kernel
theorem dX1_remove_34 : decode cX1_remove 34 = .ok (.iload_n 3, 1) := by decide +kernel
theorem dX1_remove_35 : decode cX1_remove 35 = .ok (.invokevirtual 43, 3) := by decide +kernel
theorem dX1_remove_38 : decode cX1_remove 38 = .ok (.invokestatic 39, 3) := by decide +kernel
theorem dX1_remove_41 : decode cX1_remove 41 = .ok (.iinc 3 1, 3) := by decide +kernel
theorem dX1_remove_44 : decode cX1_remove 44 = .ok (.goto (-30), 3) := by decide +kernel
theorem dX1_remove_47 : decode cX1_remove 47 = .ok (.aload_n 0, 1) := by decide +kernel
theorem dX1_remove_48 : decode cX1_remove 48 = .ok (.getfield 15, 3) := by decide +kernel
theorem dX1_remove_51 : decode cX1_remove 51 = .ok (.iload_n 2, 1) := by decide +kernel
theorem dX1_remove_52 : decode cX1_remove 52 = .ok (.aload_n 0, 1) := by decide +kernel
theorem dX1_remove_53 : decode cX1_remove 53 = .ok (.getfield 15, 3) := by decide +kernel
theorem dX1_remove_56 : decode cX1_remove 56 = .ok (.iload_n 2, 1) := by decide +kernel
theorem dX1_remove_57 : decode cX1_remove 57 = .ok (.iconst 1, 1) := by decide +kernel
theorem dX1_remove_58 : decode cX1_remove 58 = .ok (.iadd, 1) := by decide +kernel
theorem dX1_remove_59 : decode cX1_remove 59 = .ok (.invokestatic 31, 3) := by decide +kernel
theorem dX1_remove_62 : decode cX1_remove 62 = .ok (.invokestatic 39, 3) := by decide +kernel
theorem dX1_remove_65 : decode cX1_remove 65 = .ok (.aload_n 0, 1) := by decide +kernel
theorem dX1_remove_66 : decode cX1_remove 66 = .ok (.getfield 18, 3) := by decide +kernel
theorem dX1_remove_69 : decode cX1_remove 69 = .ok (.iload_n 2, 1) := by decide +kernel
theorem dX1_remove_70 : decode cX1_remove 70 = .ok (.aload_n 0, 1) := by decide +kernel
theorem dX1_remove_71 : decode cX1_remove 71 = .ok (.getfield 18, 3) := by decide +kernel
theorem dX1_remove_74 : decode cX1_remove 74 = .ok (.iload_n 2, 1) := by decide +kernel
theorem dX1_remove_75 : decode cX1_remove 75 = .ok (.iconst 1, 1) := by decide +kernel
theorem dX1_remove_76 : decode cX1_remove 76 = .ok (.iadd, 1) := by decide +kernel
theorem dX1_remove_77 : decode cX1_remove 77 = .ok (.invokestatic 31, 3) := by decide +kernel
theorem dX1_remove_80 : decode cX1_remove 80 = .ok (.invokestatic 39, 3) := by decide +kernel
theorem dX1_remove_83 : decode cX1_remove 83 = .ok (.iinc 2 1, 3) := by decide +kernel
theorem dX1_remove_86 : decode cX1_remove 86 = .ok (.goto (-84), 3) := by decide +kernel
theorem dX1_remove_89 : decode cX1_remove 89 = .ok (.aload_n 0, 1) := by decide +kernel
theorem dX1_remove_90 : decode cX1_remove 90 = .ok (.dup, 1) := by decide +kernel
theorem dX1_remove_91 : decode cX1_remove 91 = .ok (.getfield 27, 3) := by decide +kernel
theorem dX1_remove_94 : decode cX1_remove 94 = .ok (.iconst 1, 1) := by decide +kernel
theorem dX1_remove_95 : decode cX1_remove 95 = .ok (.isub, 1) := by decide +kernel
theorem dX1_remove_96 : decode cX1_remove 96 = .ok (.putfield 27, 3) := by decide +kernel
theorem dX1_remove_99 : decode cX1_remove 99 = .ok (.return_, 1) := by decide +kernel
theorem dX2_at_0 : decode cX2_at 0 = .ok (.iload_n 1, 1) := by decide +kernel
theorem dX2_at_1 : decode cX2_at 1 = .ok (.ifCond .lt 15, 3) := by decide +kernel
theorem dX2_at_4 : decode cX2_at 4 = .ok (.iload_n 1, 1) := by decide +kernel
theorem dX2_at_5 : decode cX2_at 5 = .ok (.aload_n 0, 1) := by decide +kernel
theorem dX2_at_6 : decode cX2_at 6 = .ok (.arraylength, 1) := by decide +kernel
theorem dX2_at_7 : decode cX2_at 7 = .ok (.if_icmp .ge 9, 3) := by decide +kernel
theorem dX2_at_10 : decode cX2_at 10 = .ok (.aload_n 0, 1) := by decide +kernel
theorem dX2_at_11 : decode cX2_at 11 = .ok (.iload_n 1, 1) := by decide +kernel
theorem dX2_at_12 : decode cX2_at 12 = .ok (.iaload, 1) := by decide +kernel
theorem dX2_at_13 : decode cX2_at 13 = .ok (.goto 4, 3) := by decide +kernel
theorem dX2_at_16 : decode cX2_at 16 = .ok (.iconst 0, 1) := by decide +kernel
theorem dX2_at_17 : decode cX2_at 17 = .ok (.ireturn, 1) := by decide +kernel
theorem dX2_put_0 : decode cX2_put 0 = .ok (.iload_n 1, 1) := by decide +kernel
theorem dX2_put_1 : decode cX2_put 1 = .ok (.ifCond .lt 13, 3) := by decide +kernel
theorem dX2_put_4 : decode cX2_put 4 = .ok (.iload_n 1, 1) := by decide +kernel
theorem dX2_put_5 : decode cX2_put 5 = .ok (.aload_n 0, 1) := by decide +kernel
theorem dX2_put_6 : decode cX2_put 6 = .ok (.arraylength, 1) := by decide +kernel
theorem dX2_put_7 : decode cX2_put 7 = .ok (.if_icmp .ge 7, 3) := by decide +kernel
theorem dX2_put_10 : decode cX2_put 10 = .ok (.aload_n 0, 1) := by decide +kernel
theorem dX2_put_11 : decode cX2_put 11 = .ok (.iload_n 1, 1) := by decide +kernel
theorem dX2_put_12 : decode cX2_put 12 = .ok (.iload_n 2, 1) := by decide +kernel
theorem dX2_put_13 : decode cX2_put 13 = .ok (.iastore, 1) := by decide +kernel
theorem dX2_put_14 : decode cX2_put 14 = .ok (.return_, 1) := by decide +kernel
theorem dX2_copy_0 : decode cX2_copy 0 = .ok (.iconst 0, 1) := by decide +kernel
theorem dX2_copy_1 : decode cX2_copy 1 = .ok (.istore_n 2, 1) := by decide +kernel
theorem dX2_copy_2 : decode cX2_copy 2 = .ok (.iload_n 2, 1) := by decide +kernel
theorem dX2_copy_3 : decode cX2_copy 3 = .ok (.aload_n 0, 1) := by decide +kernel
theorem dX2_copy_4 : decode cX2_copy 4 = .ok (.arraylength, 1) := by decide +kernel
theorem dX2_copy_5 : decode cX2_copy 5 = .ok (.if_icmp .ge 21, 3) := by decide +kernel
theorem dX2_copy_8 : decode cX2_copy 8 = .ok (.iload_n 2, 1) := by decide +kernel
theorem dX2_copy_9 : decode cX2_copy 9 = .ok (.aload_n 1, 1) := by decide +kernel
theorem dX2_copy_10 : decode cX2_copy 10 = .ok (.arraylength, 1) := by decide +kernel
theorem dX2_copy_11 : decode cX2_copy 11 = .ok (.if_icmp .ge 15, 3) := by decide +kernel
theorem dX2_copy_14 : decode cX2_copy 14 = .ok (.aload_n 1, 1) := by decide +kernel
theorem dX2_copy_15 : decode cX2_copy 15 = .ok (.iload_n 2, 1) := by decide +kernel
theorem dX2_copy_16 : decode cX2_copy 16 = .ok (.aload_n 0, 1) := by decide +kernel
theorem dX2_copy_17 : decode cX2_copy 17 = .ok (.iload_n 2, 1) := by decide +kernel
theorem dX2_copy_18 : decode cX2_copy 18 = .ok (.iaload, 1) := by decide +kernel
theorem dX2_copy_19 : decode cX2_copy 19 = .ok (.iastore, 1) := by decide +kernel
theorem dX2_copy_20 : decode cX2_copy 20 = .ok (.iinc 2 1, 3) := by decide +kernel
theorem dX2_copy_23 : decode cX2_copy 23 = .ok (.goto (-21), 3) := by decide +kernel
theorem dX2_copy_26 : decode cX2_copy 26 = .ok (.return_, 1) := by decide +kernel
theorem dX2_clear_0 : decode cX2_clear 0 = .ok (.iconst 0, 1) := by decide +kernel
theorem dX2_clear_1 : decode cX2_clear 1 = .ok (.istore_n 1, 1) := by decide +kernel
theorem dX2_clear_2 : decode cX2_clear 2 = .ok (.iload_n 1, 1) := by decide +kernel
theorem dX2_clear_3 : decode cX2_clear 3 = .ok (.aload_n 0, 1) := by decide +kernel
theorem dX2_clear_4 : decode cX2_clear 4 = .ok (.arraylength, 1) := by decide +kernel
theorem dX2_clear_5 : decode cX2_clear 5 = .ok (.if_icmp .ge 13, 3) := by decide +kernel
theorem dX2_clear_8 : decode cX2_clear 8 = .ok (.aload_n 0, 1) := by decide +kernel
theorem dX2_clear_9 : decode cX2_clear 9 = .ok (.iload_n 1, 1) := by decide +kernel
theorem dX2_clear_10 : decode cX2_clear 10 = .ok (.iconst 0, 1) := by decide +kernel
theorem dX2_clear_11 : decode cX2_clear 11 = .ok (.iastore, 1) := by decide +kernel
theorem dX2_clear_12 : decode cX2_clear 12 = .ok (.iinc 1 1, 3) := by decide +kernel
theorem dX2_clear_15 : decode cX2_clear 15 = .ok (.goto (-13), 3) := by decide +kernel
theorem dX2_clear_18 : decode cX2_clear 18 = .ok (.return_, 1) := by decide +kernel
theorem dX3_init_0 : decode cX3_init 0 = .ok (.aload_n 0, 1) := by decide +kernel
theorem dX3_init_1 : decode cX3_init 1 = .ok (.invokespecial 3, 3) := by decide +kernel
theorem dX3_init_4 : decode cX3_init 4 = .ok (.aload_n 0, 1) := by decide +kernel
theorem dX3_init_5 : decode cX3_init 5 = .ok (.bipush 6, 2) := by decide +kernel
theorem dX3_init_7 : decode cX3_init 7 = .ok (.anewarray 9, 3) := by decide +kernel
theorem dX3_init_10 : decode cX3_init 10 = .ok (.putfield 11, 3) := by decide +kernel
theorem dX3_init_13 : decode cX3_init 13 = .ok (.iconst 0, 1) := by decide +kernel
theorem dX3_init_14 : decode cX3_init 14 = .ok (.istore_n 1, 1) := by decide +kernel
theorem dX3_init_15 : decode cX3_init 15 = .ok (.iload_n 1, 1) := by decide +kernel
theorem dX3_init_16 : decode cX3_init 16 = .ok (.aload_n 0, 1) := by decide +kernel
theorem dX3_init_17 : decode cX3_init 17 = .ok (.getfield 11, 3) := by decide +kernel
theorem dX3_init_20 : decode cX3_init 20 = .ok (.arraylength, 1) := by decide +kernel
theorem dX3_init_21 : decode cX3_init 21 = .ok (.if_icmp .ge 22, 3) := by decide +kernel
theorem dX3_init_24 : decode cX3_init 24 = .ok (.aload_n 0, 1) := by decide +kernel
theorem dX3_init_25 : decode cX3_init 25 = .ok (.getfield 11, 3) := by decide +kernel
theorem dX3_init_28 : decode cX3_init 28 = .ok (.iload_n 1, 1) := by decide +kernel
theorem dX3_init_29 : decode cX3_init 29 = .ok (.new 9, 3) := by decide +kernel
theorem dX3_init_32 : decode cX3_init 32 = .ok (.dup, 1) := by decide +kernel
theorem dX3_init_33 : decode cX3_init 33 = .ok (.invokespecial 17, 3) := by decide +kernel
theorem dX3_init_36 : decode cX3_init 36 = .ok (.aastore, 1) := by decide +kernel
theorem dX3_init_37 : decode cX3_init 37 = .ok (.iinc 1 1, 3) := by decide +kernel
theorem dX3_init_40 : decode cX3_init 40 = .ok (.goto (-25), 3) := by decide +kernel
theorem dX3_init_43 : decode cX3_init 43 = .ok (.return_, 1) := by decide +kernel
theorem dX3_push_0 : decode cX3_push 0 = .ok (.aload_n 0, 1) := by decide +kernel
theorem dX3_push_1 : decode cX3_push 1 = .ok (.aload_n 0, 1) := by decide +kernel
theorem dX3_push_2 : decode cX3_push 2 = .ok (.getfield 18, 3) := by decide +kernel
theorem dX3_push_5 : decode cX3_push 5 = .ok (.invokevirtual 22, 3) := by decide +kernel
theorem dX3_push_8 : decode cX3_push 8 = .ok (.astore_n 2, 1) := by decide +kernel
theorem dX3_push_9 : decode cX3_push 9 = .ok (.aload_n 2, 1) := by decide +kernel
theorem dX3_push_10 : decode cX3_push 10 = .ok (.ifnonnull 4, 3) := by decide +kernel
theorem dX3_push_13 : decode cX3_push 13 = .ok (.return_, 1) := by decide +kernel
theorem dX3_push_14 : decode cX3_push 14 = .ok (.aload_n 2, 1) := by decide +kernel
theorem dX3_push_15 : decode cX3_push 15 = .ok (.aload_n 1, 1) := by decide +kernel
theorem dX3_push_16 : decode cX3_push 16 = .ok (.invokevirtual 26, 3) := by decide +kernel
theorem dX3_push_19 : decode cX3_push 19 = .ok (.aload_n 0, 1) := by decide +kernel
theorem dX3_push_20 : decode cX3_push 20 = .ok (.aload_n 0, 1) := by decide +kernel
theorem dX3_push_21 : decode cX3_push 21 = .ok (.getfield 18, 3) := by decide +kernel
theorem dX3_push_24 : decode cX3_push 24 = .ok (.iconst 1, 1) := by decide +kernel
theorem dX3_push_25 : decode cX3_push 25 = .ok (.iadd, 1) := by decide +kernel
theorem dX3_push_26 : decode cX3_push 26 = .ok (.bipush 6, 2) := by decide +kernel
theorem dX3_push_28 : decode cX3_push 28 = .ok (.if_icmp .ge 12, 3) := by decide +kernel
theorem dX3_push_31 : decode cX3_push 31 = .ok (.aload_n 0, 1) := by decide +kernel
theorem dX3_push_32 : decode cX3_push 32 = .ok (.getfield 18, 3) := by decide +kernel
theorem dX3_push_35 : decode cX3_push 35 = .ok (.iconst 1, 1) := by decide +kernel
theorem dX3_push_36 : decode cX3_push 36 = .ok (.iadd, 1) := by decide +kernel
theorem dX3_push_37 : decode cX3_push 37 = .ok (.goto 4, 3) := by decide +kernel
theorem dX3_push_40 : decode cX3_push 40 = .ok (.iconst 0, 1) := by decide +kernel
theorem dX3_push_41 : decode cX3_push 41 = .ok (.putfield 18, 3) := by decide +kernel
theorem dX3_push_44 : decode cX3_push 44 = .ok (.aload_n 0, 1) := by decide +kernel
theorem dX3_push_45 : decode cX3_push 45 = .ok (.aload_n 0, 1) := by decide +kernel
theorem dX3_push_46 : decode cX3_push 46 = .ok (.getfield 30, 3) := by decide +kernel
theorem dX3_push_49 : decode cX3_push 49 = .ok (.iconst 1, 1) := by decide +kernel
theorem dX3_push_50 : decode cX3_push 50 = .ok (.iadd, 1) := by decide +kernel
theorem dX3_push_51 : decode cX3_push 51 = .ok (.bipush 6, 2) := by decide +kernel
theorem dX3_push_53 : decode cX3_push 53 = .ok (.invokestatic 33, 3) := by decide +kernel
theorem dX3_push_56 : decode cX3_push 56 = .ok (.putfield 30, 3) := by decide +kernel
theorem dX3_push_59 : decode cX3_push 59 = .ok (.return_, 1) := by decide +kernel
theorem dX3_popInto_0 : decode cX3_popInto 0 = .ok (.aload_n 0, 1) := by decide +kernel
theorem dX3_popInto_1 : decode cX3_popInto 1 = .ok (.getfield 18, 3) := by decide +kernel
theorem dX3_popInto_4 : decode cX3_popInto 4 = .ok (.ifCond .le 12, 3) := by decide +kernel
theorem dX3_popInto_7 : decode cX3_popInto 7 = .ok (.aload_n 0, 1) := by decide +kernel
theorem dX3_popInto_8 : decode cX3_popInto 8 = .ok (.getfield 18, 3) := by decide +kernel
theorem dX3_popInto_11 : decode cX3_popInto 11 = .ok (.iconst 1, 1) := by decide +kernel
theorem dX3_popInto_12 : decode cX3_popInto 12 = .ok (.isub, 1) := by decide +kernel
theorem dX3_popInto_13 : decode cX3_popInto 13 = .ok (.goto 4, 3) := by decide +kernel
theorem dX3_popInto_16 : decode cX3_popInto 16 = .ok (.iconst 5, 1) := by decide +kernel
theorem dX3_popInto_17 : decode cX3_popInto 17 = .ok (.istore_n 2, 1) := by decide +kernel
theorem dX3_popInto_18 : decode cX3_popInto 18 = .ok (.aload_n 0, 1) := by decide +kernel
theorem dX3_popInto_19 : decode cX3_popInto 19 = .ok (.iload_n 2, 1) := by decide +kernel
theorem dX3_popInto_20 : decode cX3_popInto 20 = .ok (.invokevirtual 22, 3) := by decide +kernel
theorem dX3_popInto_23 : decode cX3_popInto 23 = .ok (.astore_n 3, 1) := by decide +kernel
theorem dX3_popInto_24 : decode cX3_popInto 24 = .ok (.aload_n 0, 1) := by decide +kernel
theorem dX3_popInto_25 : decode cX3_popInto 25 = .ok (.getfield 30, 3) := by decide +kernel
theorem dX3_popInto_28 : decode cX3_popInto 28 = .ok (.ifCond .eq 7, 3) := by decide +kernel
theorem dX3_popInto_31 : decode cX3_popInto 31 = .ok (.aload_n 3, 1) := by decide +kernel
theorem dX3_popInto_32 : decode cX3_popInto 32 = .ok (.ifnonnull 4, 3) := by decide +kernel
theorem dX3_popInto_35 : decode cX3_popInto 35 = .ok (.return_, 1) := by decide +kernel
theorem dX3_popInto_36 : decode cX3_popInto 36 = .ok (.aload_n 1, 1) := by decide +kernel
theorem dX3_popInto_37 : decode cX3_popInto 37 = .ok (.aload_n 3, 1) := by decide +kernel
theorem dX3_popInto_38 : decode cX3_popInto 38 = .ok (.invokevirtual 26, 3) := by decide +kernel
theorem dX3_popInto_41 : decode cX3_popInto 41 = .ok (.aload_n 0, 1) := by decide +kernel
theorem dX3_popInto_42 : decode cX3_popInto 42 = .ok (.iload_n 2, 1) := by decide +kernel
theorem dX3_popInto_43 : decode cX3_popInto 43 = .ok (.putfield 18, 3) := by decide +kernel
theorem dX3_popInto_46 : decode cX3_popInto 46 = .ok (.aload_n 0, 1) := by decide +kernel
theorem dX3_popInto_47 : decode cX3_popInto 47 = .ok (.dup, 1) := by decide +kernel
theorem dX3_popInto_48 : decode cX3_popInto 48 = .ok (.getfield 30, 3) := by decide +kernel
theorem dX3_popInto_51 : decode cX3_popInto 51 = .ok (.iconst 1, 1) := by decide +kernel
theorem dX3_popInto_52 : decode cX3_popInto 52 = .ok (.isub, 1) := by decide +kernel
theorem dX3_popInto_53 : decode cX3_popInto 53 = .ok (.putfield 30, 3) := by decide +kernel
theorem dX3_popInto_56 : decode cX3_popInto 56 = .ok (.return_, 1) := by decide +kernel
theorem dX3_stateAt_0 : decode cX3_stateAt 0 = .ok (.iload_n 1, 1) := by decide +kernel
theorem dX3_stateAt_1 : decode cX3_stateAt 1 = .ok (.ifCond .lt 21, 3) := by decide +kernel
theorem dX3_stateAt_4 : decode cX3_stateAt 4 = .ok (.iload_n 1, 1) := by decide +kernel
theorem dX3_stateAt_5 : decode cX3_stateAt 5 = .ok (.aload_n 0, 1) := by decide +kernel
theorem dX3_stateAt_6 : decode cX3_stateAt 6 = .ok (.getfield 11, 3) := by decide +kernel
theorem dX3_stateAt_9 : decode cX3_stateAt 9 = .ok (.arraylength, 1) := by decide +kernel
theorem dX3_stateAt_10 : decode cX3_stateAt 10 = .ok (.if_icmp .ge 12, 3) := by decide +kernel
theorem dX3_stateAt_13 : decode cX3_stateAt 13 = .ok (.aload_n 0, 1) := by decide +kernel
theorem dX3_stateAt_14 : decode cX3_stateAt 14 = .ok (.getfield 11, 3) := by decide +kernel
theorem dX3_stateAt_17 : decode cX3_stateAt 17 = .ok (.iload_n 1, 1) := by decide +kernel
theorem dX3_stateAt_18 : decode cX3_stateAt 18 = .ok (.aaload, 1) := by decide +kernel
theorem dX3_stateAt_19 : decode cX3_stateAt 19 = .ok (.goto 4, 3) := by decide +kernel
theorem dX3_stateAt_22 : decode cX3_stateAt 22 = .ok (.aconst_null, 1) := by decide +kernel
theorem dX3_stateAt_23 : decode cX3_stateAt 23 = .ok (.areturn, 1) := by decide +kernel
theorem dX4_init_0 : decode cX4_init 0 = .ok (.aload_n 0, 1) := by decide +kernel
theorem dX4_init_1 : decode cX4_init 1 = .ok (.invokespecial 1, 3) := by decide +kernel
theorem dX4_init_4 : decode cX4_init 4 = .ok (.aload_n 0, 1) := by decide +kernel
theorem dX4_init_5 : decode cX4_init 5 = .ok (.new 7, 3) := by decide +kernel
theorem dX4_init_8 : decode cX4_init 8 = .ok (.dup, 1) := by decide +kernel
theorem dX4_init_9 : decode cX4_init 9 = .ok (.invokespecial 9, 3) := by decide +kernel
theorem dX4_init_12 : decode cX4_init 12 = .ok (.putfield 10, 3) := by decide +kernel
theorem dX4_init_15 : decode cX4_init 15 = .ok (.return_, 1) := by decide +kernel
theorem dX5_init_0 : decode cX5_init 0 = .ok (.aload_n 0, 1) := by decide +kernel
theorem dX5_init_1 : decode cX5_init 1 = .ok (.invokespecial 3, 3) := by decide +kernel
theorem dX5_init_4 : decode cX5_init 4 = .ok (.aload_n 0, 1) := by decide +kernel
theorem dX5_init_5 : decode cX5_init 5 = .ok (.iconst 4, 1) := by decide +kernel
theorem dX5_init_6 : decode cX5_init 6 = .ok (.putfield 9, 3) := by decide +kernel
theorem dX5_init_9 : decode cX5_init 9 = .ok (.aload_n 0, 1) := by decide +kernel
theorem dX5_init_10 : decode cX5_init 10 = .ok (.bipush 100, 2) := by decide +kernel
theorem dX5_init_12 : decode cX5_init 12 = .ok (.putfield 15, 3) := by decide +kernel
theorem dX5_init_15 : decode cX5_init 15 = .ok (.aload_n 0, 1) := by decide +kernel
theorem dX5_init_16 : decode cX5_init 16 = .ok (.getstatic 18, 3) := by decide +kernel
theorem dX5_init_19 : decode cX5_init 19 = .ok (.invokevirtual 22, 3) := by decide +kernel
theorem dX5_init_22 : decode cX5_init 22 = .ok (.checkcast 23, 3) := by decide +kernel
theorem dX5_init_25 : decode cX5_init 25 = .ok (.putfield 27, 3) := by decide +kernel
theorem dX5_init_28 : decode cX5_init 28 = .ok (.aload_n 0, 1) := by decide +kernel
theorem dX5_init_29 : decode cX5_init 29 = .ok (.bipush 8, 2) := by decide +kernel
theorem dX5_init_31 : decode cX5_init 31 = .ok (.newarray .int, 2) := by decide +kernel
theorem dX5_init_33 : decode cX5_init 33 = .ok (.putfield 30, 3) := by decide +kernel
theorem dX5_init_36 : decode cX5_init 36 = .ok (.aload_n 0, 1) := by decide +kernel
theorem dX5_init_37 : decode cX5_init 37 = .ok (.bipush 8, 2) := by decide +kernel
theorem dX5_init_39 : decode cX5_init 39 = .ok (.newarray .int, 2) := by decide +kernel
theorem dX5_init_41 : decode cX5_init 41 = .ok (.putfield 33, 3) := by decide +kernel
theorem dX5_init_44 : decode cX5_init 44 = .ok (.aload_n 0, 1) := by decide +kernel
theorem dX5_init_45 : decode cX5_init 45 = .ok (.bipush 8, 2) := by decide +kernel
theorem dX5_init_47 : decode cX5_init 47 = .ok (.newarray .int, 2) := by decide +kernel
theorem dX5_init_49 : decode cX5_init 49 = .ok (.putfield 36, 3) := by decide +kernel
theorem dX5_init_52 : decode cX5_init 52 = .ok (.aload_n 0, 1) := by decide +kernel
theorem dX5_init_53 : decode cX5_init 53 = .ok (.bipush 8, 2) := by decide +kernel
theorem dX5_init_55 : decode cX5_init 55 = .ok (.newarray .int, 2) := by decide +kernel
theorem dX5_init_57 : decode cX5_init 57 = .ok (.putfield 39, 3) := by decide +kernel
theorem dX5_init_60 : decode cX5_init 60 = .ok (.aload_n 0, 1) := by decide +kernel
theorem dX5_init_61 : decode cX5_init 61 = .ok (.new 42, 3) := by decide +kernel
theorem dX5_init_64 : decode cX5_init 64 = .ok (.dup, 1) := by decide +kernel
theorem dX5_init_65 : decode cX5_init 65 = .ok (.invokespecial 44, 3) := by decide +kernel
theorem dX5_init_68 : decode cX5_init 68 = .ok (.putfield 45, 3) := by decide +kernel
theorem dX5_init_71 : decode cX5_init 71 = .ok (.iconst 0, 1) := by decide +kernel
theorem dX5_init_72 : decode cX5_init 72 = .ok (.istore_n 1, 1) := by decide +kernel
theorem dX5_init_73 : decode cX5_init 73 = .ok (.iload_n 1, 1) := by decide +kernel
theorem dX5_init_74 : decode cX5_init 74 = .ok (.aload_n 0, 1) := by decide +kernel
theorem dX5_init_75 : decode cX5_init 75 = .ok (.getfield 30, 3) := by decide +kernel
theorem dX5_init_78 : decode cX5_init 78 = .ok (.arraylength, 1) := by decide +kernel
theorem dX5_init_79 : decode cX5_init 79 = .ok (.if_icmp .ge 17, 3) := by decide +kernel
theorem dX5_init_82 : decode cX5_init 82 = .ok (.aload_n 0, 1) := by decide +kernel
theorem dX5_init_83 : decode cX5_init 83 = .ok (.getfield 30, 3) := by decide +kernel
theorem dX5_init_86 : decode cX5_init 86 = .ok (.iload_n 1, 1) := by decide +kernel
theorem dX5_init_87 : decode cX5_init 87 = .ok (.bipush 100, 2) := by decide +kernel
theorem dX5_init_89 : decode cX5_init 89 = .ok (.iastore, 1) := by decide +kernel
theorem dX5_init_90 : decode cX5_init 90 = .ok (.iinc 1 1, 3) := by decide +kernel
theorem dX5_init_93 : decode cX5_init 93 = .ok (.goto (-20), 3) := by decide +kernel
theorem dX5_init_96 : decode cX5_init 96 = .ok (.return_, 1) := by decide +kernel
theorem dX5_become_0 : decode cX5_become 0 = .ok (.aload_n 0, 1) := by decide +kernel
theorem dX5_become_1 : decode cX5_become 1 = .ok (.aload_n 1, 1) := by decide +kernel
theorem dX5_become_2 : decode cX5_become 2 = .ok (.getfield 9, 3) := by decide +kernel
theorem dX5_become_5 : decode cX5_become 5 = .ok (.putfield 9, 3) := by decide +kernel
theorem dX5_become_8 : decode cX5_become 8 = .ok (.aload_n 0, 1) := by decide +kernel
theorem dX5_become_9 : decode cX5_become 9 = .ok (.aload_n 1, 1) := by decide +kernel
theorem dX5_become_10 : decode cX5_become 10 = .ok (.getfield 15, 3) := by decide +kernel
theorem dX5_become_13 : decode cX5_become 13 = .ok (.putfield 15, 3) := by decide +kernel
theorem dX5_become_16 : decode cX5_become 16 = .ok (.aload_n 1, 1) := by decide +kernel
theorem dX5_become_17 : decode cX5_become 17 = .ok (.getfield 27, 3) := by decide +kernel
theorem dX5_become_20 : decode cX5_become 20 = .ok (.aload_n 0, 1) := by decide +kernel
theorem dX5_become_21 : decode cX5_become 21 = .ok (.getfield 27, 3) := by decide +kernel
theorem dX5_become_24 : decode cX5_become 24 = .ok (.invokestatic 49, 3) := by decide +kernel
theorem dX5_become_27 : decode cX5_become 27 = .ok (.aload_n 1, 1) := by decide +kernel
theorem dX5_become_28 : decode cX5_become 28 = .ok (.getfield 30, 3) := by decide +kernel
theorem dX5_become_31 : decode cX5_become 31 = .ok (.aload_n 0, 1) := by decide +kernel
theorem dX5_become_32 : decode cX5_become 32 = .ok (.getfield 30, 3) := by decide +kernel
theorem dX5_become_35 : decode cX5_become 35 = .ok (.invokestatic 49, 3) := by decide +kernel
theorem dX5_become_38 : decode cX5_become 38 = .ok (.aload_n 1, 1) := by decide +kernel
theorem dX5_become_39 : decode cX5_become 39 = .ok (.getfield 33, 3) := by decide +kernel
theorem dX5_become_42 : decode cX5_become 42 = .ok (.aload_n 0, 1) := by decide +kernel
theorem dX5_become_43 : decode cX5_become 43 = .ok (.getfield 33, 3) := by decide +kernel
theorem dX5_become_46 : decode cX5_become 46 = .ok (.invokestatic 49, 3) := by decide +kernel
theorem dX5_become_49 : decode cX5_become 49 = .ok (.aload_n 1, 1) := by decide +kernel
theorem dX5_become_50 : decode cX5_become 50 = .ok (.getfield 36, 3) := by decide +kernel
theorem dX5_become_53 : decode cX5_become 53 = .ok (.aload_n 0, 1) := by decide +kernel
theorem dX5_become_54 : decode cX5_become 54 = .ok (.getfield 36, 3) := by decide +kernel
theorem dX5_become_57 : decode cX5_become 57 = .ok (.invokestatic 49, 3) := by decide +kernel
theorem dX5_become_60 : decode cX5_become 60 = .ok (.aload_n 1, 1) := by decide +kernel
theorem dX5_become_61 : decode cX5_become 61 = .ok (.getfield 39, 3) := by decide +kernel
theorem dX5_become_64 : decode cX5_become 64 = .ok (.aload_n 0, 1) := by decide +kernel
theorem dX5_become_65 : decode cX5_become 65 = .ok (.getfield 39, 3) := by decide +kernel
theorem dX5_become_68 : decode cX5_become 68 = .ok (.invokestatic 49, 3) := by decide +kernel
theorem dX5_become_71 : decode cX5_become 71 = .ok (.aload_n 0, 1) := by decide +kernel
theorem dX5_become_72 : decode cX5_become 72 = .ok (.getfield 45, 3) := by decide +kernel
theorem dX5_become_75 : decode cX5_become 75 = .ok (.aload_n 1, 1) := by decide +kernel
theorem dX5_become_76 : decode cX5_become 76 = .ok (.getfield 45, 3) := by decide +kernel
theorem dX5_become_79 : decode cX5_become 79 = .ok (.invokevirtual 55, 3) := by decide +kernel
theorem dX5_become_82 : decode cX5_become 82 = .ok (.aload_n 0, 1) := by decide +kernel
theorem dX5_become_83 : decode cX5_become 83 = .ok (.aload_n 1, 1) := by decide +kernel
theorem dX5_become_84 : decode cX5_become 84 = .ok (.getfield 59, 3) := by decide +kernel
theorem dX5_become_87 : decode cX5_become 87 = .ok (.putfield 59, 3) := by decide +kernel
theorem dX5_become_90 : decode cX5_become 90 = .ok (.aload_n 0, 1) := by decide +kernel
theorem dX5_become_91 : decode cX5_become 91 = .ok (.aload_n 1, 1) := by decide +kernel
theorem dX5_become_92 : decode cX5_become 92 = .ok (.getfield 62, 3) := by decide +kernel
theorem dX5_become_95 : decode cX5_become 95 = .ok (.putfield 62, 3) := by decide +kernel
theorem dX5_become_98 : decode cX5_become 98 = .ok (.aload_n 0, 1) := by decide +kernel
theorem dX5_become_99 : decode cX5_become 99 = .ok (.aload_n 1, 1) := by decide +kernel
theorem dX5_become_100 : decode cX5_become 100 = .ok (.getfield 65, 3) := by decide +kernel
theorem dX5_become_103 : decode cX5_become 103 = .ok (.putfield 65, 3) := by decide +kernel
theorem dX5_become_106 : decode cX5_become 106 = .ok (.return_, 1) := by decide +kernel
theorem dX5_putRake_0 : decode cX5_putRake 0 = .ok (.aload_n 0, 1) := by decide +kernel
theorem dX5_putRake_1 : decode cX5_putRake 1 = .ok (.dup, 1) := by decide +kernel
theorem dX5_putRake_2 : decode cX5_putRake 2 = .ok (.getfield 65, 3) := by decide +kernel
theorem dX5_putRake_5 : decode cX5_putRake 5 = .ok (.aload_n 0, 1) := by decide +kernel
theorem dX5_putRake_6 : decode cX5_putRake 6 = .ok (.invokevirtual 68, 3) := by decide +kernel
theorem dX5_putRake_9 : decode cX5_putRake 9 = .ok (.iadd, 1) := by decide +kernel
theorem dX5_putRake_10 : decode cX5_putRake 10 = .ok (.putfield 65, 3) := by decide +kernel
theorem dX5_putRake_13 : decode cX5_putRake 13 = .ok (.iconst 0, 1) := by decide +kernel
theorem dX5_putRake_14 : decode cX5_putRake 14 = .ok (.istore_n 2, 1) := by decide +kernel
theorem dX5_putRake_15 : decode cX5_putRake 15 = .ok (.iload_n 2, 1) := by decide +kernel
theorem dX5_putRake_16 : decode cX5_putRake 16 = .ok (.bipush 8, 2) := by decide +kernel
theorem dX5_putRake_18 : decode cX5_putRake 18 = .ok (.if_icmp .ge 23, 3) := by decide +kernel
theorem dX5_putRake_21 : decode cX5_putRake 21 = .ok (.aload_n 0, 1) := by decide +kernel
theorem dX5_putRake_22 : decode cX5_putRake 22 = .ok (.iload_n 2, 1) := by decide +kernel
theorem dX5_putRake_23 : decode cX5_putRake 23 = .ok (.invokevirtual 72, 3) := by decide +kernel
theorem dX5_putRake_26 : decode cX5_putRake 26 = .ok (.aload_n 0, 1) := by decide +kernel
theorem dX5_putRake_27 : decode cX5_putRake 27 = .ok (.getfield 39, 3) := by decide +kernel
theorem dX5_putRake_30 : decode cX5_putRake 30 = .ok (.iload_n 2, 1) := by decide +kernel
theorem dX5_putRake_31 : decode cX5_putRake 31 = .ok (.iconst 0, 1) := by decide +kernel
theorem dX5_putRake_32 : decode cX5_putRake 32 = .ok (.invokestatic 76, 3) := by decide +kernel
theorem dX5_putRake_35 : decode cX5_putRake 35 = .ok (.iinc 2 1, 3) := by decide +kernel
theorem dX5_putRake_38 : decode cX5_putRake 38 = .ok (.goto (-23), 3) := by decide +kernel
theorem dX5_putRake_41 : decode cX5_putRake 41 = .ok (.aload_n 0, 1) := by decide +kernel
theorem dX5_putRake_42 : decode cX5_putRake 42 = .ok (.iload_n 1, 1) := by decide +kernel
theorem dX5_putRake_43 : decode cX5_putRake 43 = .ok (.putfield 9, 3) := by decide +kernel
theorem dX5_putRake_46 : decode cX5_putRake 46 = .ok (.return_, 1) := by decide +kernel
theorem dX5_clearHole_0 : decode cX5_clearHole 0 = .ok (.aload_n 0, 1) := by decide +kernel
theorem dX5_clearHole_1 : decode cX5_clearHole 1 = .ok (.getfield 30, 3) := by decide +kernel
theorem dX5_clearHole_4 : decode cX5_clearHole 4 = .ok (.iload_n 1, 1) := by decide +kernel
theorem dX5_clearHole_5 : decode cX5_clearHole 5 = .ok (.bipush 100, 2) := by decide +kernel
theorem dX5_clearHole_7 : decode cX5_clearHole 7 = .ok (.invokestatic 76, 3) := by decide +kernel
theorem dX5_clearHole_10 : decode cX5_clearHole 10 = .ok (.aload_n 0, 1) := by decide +kernel
theorem dX5_clearHole_11 : decode cX5_clearHole 11 = .ok (.getfield 33, 3) := by decide +kernel
theorem dX5_clearHole_14 : decode cX5_clearHole 14 = .ok (.iload_n 1, 1) := by decide +kernel
theorem dX5_clearHole_15 : decode cX5_clearHole 15 = .ok (.iconst 0, 1) := by decide +kernel
theorem dX5_clearHole_16 : decode cX5_clearHole 16 = .ok (.invokestatic 76, 3) := by decide +kernel
theorem dX5_clearHole_19 : decode cX5_clearHole 19 = .ok (.aload_n 0, 1) := by decide +kernel
theorem dX5_clearHole_20 : decode cX5_clearHole 20 = .ok (.getfield 36, 3) := by decide +kernel
theorem dX5_clearHole_23 : decode cX5_clearHole 23 = .ok (.iload_n 1, 1) := by decide +kernel
theorem dX5_clearHole_24 : decode cX5_clearHole 24 = .ok (.iconst 0, 1) := by decide +kernel
theorem dX5_clearHole_25 : decode cX5_clearHole 25 = .ok (.invokestatic 76, 3) := by decide +kernel
theorem dX5_clearHole_28 : decode cX5_clearHole 28 = .ok (.return_, 1) := by decide +kernel
theorem dX5_workOfCleaning_0 : decode cX5_workOfCleaning 0 = .ok (.bipush 100, 2) := by decide +kernel
theorem dX5_workOfCleaning_2 : decode cX5_workOfCleaning 2 = .ok (.aload_n 0, 1) := by decide +kernel
theorem dX5_workOfCleaning_3 : decode cX5_workOfCleaning 3 = .ok (.getfield 30, 3) := by decide +kernel
theorem dX5_workOfCleaning_6 : decode cX5_workOfCleaning 6 = .ok (.iload_n 1, 1) := by decide +kernel
theorem dX5_workOfCleaning_7 : decode cX5_workOfCleaning 7 = .ok (.invokestatic 80, 3) := by decide +kernel
theorem dX5_workOfCleaning_10 : decode cX5_workOfCleaning 10 = .ok (.isub, 1) := by decide +kernel
theorem dX5_workOfCleaning_11 : decode cX5_workOfCleaning 11 = .ok (.istore_n 2, 1) := by decide +kernel
theorem dX5_workOfCleaning_12 : decode cX5_workOfCleaning 12 = .ok (.aload_n 0, 1) := by decide +kernel
theorem dX5_workOfCleaning_13 : decode cX5_workOfCleaning 13 = .ok (.getfield 33, 3) := by decide +kernel
theorem dX5_workOfCleaning_16 : decode cX5_workOfCleaning 16 = .ok (.iload_n 1, 1) := by decide +kernel
theorem dX5_workOfCleaning_17 : decode cX5_workOfCleaning 17 = .ok (.invokestatic 80, 3) := by decide +kernel
theorem dX5_workOfCleaning_20 : decode cX5_workOfCleaning 20 = .ok (.ifCond .le 7, 3) := by decide +kernel
theorem dX5_workOfCleaning_23 : decode cX5_workOfCleaning 23 = .ok (.iconst 4, 1) := by decide +kernel
theorem dX5_workOfCleaning_24 : decode cX5_workOfCleaning 24 = .ok (.goto 4, 3) := by decide +kernel
theorem dX5_workOfCleaning_27 : decode cX5_workOfCleaning 27 = .ok (.iconst 0, 1) := by decide +kernel
theorem dX5_workOfCleaning_28 : decode cX5_workOfCleaning 28 = .ok (.istore_n 3, 1) := by decide +kernel
theorem dX5_workOfCleaning_29 : decode cX5_workOfCleaning 29 = .ok (.iconst 2, 1) := by decide +kernel
theorem dX5_workOfCleaning_30 : decode cX5_workOfCleaning 30 = .ok (.iload_n 2, 1) := by decide +kernel
theorem dX5_workOfCleaning_31 : decode cX5_workOfCleaning 31 = .ok (.bipush 10, 2) := by decide +kernel
theorem dX5_workOfCleaning_33 : decode cX5_workOfCleaning 33 = .ok (.idiv, 1) := by decide +kernel
theorem dX5_workOfCleaning_34 : decode cX5_workOfCleaning 34 = .ok (.iadd, 1) := by decide +kernel
theorem dX5_workOfCleaning_35 : decode cX5_workOfCleaning 35 = .ok (.iload_n 3, 1) := by decide +kernel
theorem dX5_workOfCleaning_36 : decode cX5_workOfCleaning 36 = .ok (.iadd, 1) := by decide +kernel
theorem dX5_workOfCleaning_37 : decode cX5_workOfCleaning 37 = .ok (.ireturn, 1) := by decide +kernel
theorem dX5_addHoleWork_0 : decode cX5_addHoleWork 0 = .ok (.aload_n 0, 1) := by decide +kernel
theorem dX5_addHoleWork_1 : decode cX5_addHoleWork 1 = .ok (.getfield 39, 3) := by decide +kernel
theorem dX5_addHoleWork_4 : decode cX5_addHoleWork 4 = .ok (.iload_n 1, 1) := by decide +kernel
theorem dX5_addHoleWork_5 : decode cX5_addHoleWork 5 = .ok (.aload_n 0, 1) := by decide +kernel
theorem dX5_addHoleWork_6 : decode cX5_addHoleWork 6 = .ok (.getfield 39, 3) := by decide +kernel
theorem dX5_addHoleWork_9 : decode cX5_addHoleWork 9 = .ok (.iload_n 1, 1) := by decide +kernel
theorem dX5_addHoleWork_10 : decode cX5_addHoleWork 10 = .ok (.invokestatic 80, 3) := by decide +kernel
theorem dX5_addHoleWork_13 : decode cX5_addHoleWork 13 = .ok (.iload_n 2, 1) := by decide +kernel
theorem dX5_addHoleWork_14 : decode cX5_addHoleWork 14 = .ok (.iadd, 1) := by decide +kernel
theorem dX5_addHoleWork_15 : decode cX5_addHoleWork 15 = .ok (.invokestatic 76, 3) := by decide +kernel
theorem dX5_addHoleWork_18 : decode cX5_addHoleWork 18 = .ok (.return_, 1) := by decide +kernel
theorem dX5_workOfHoles_0 : decode cX5_workOfHoles 0 = .ok (.iconst 0, 1) := by decide +kernel
theorem dX5_workOfHoles_1 : decode cX5_workOfHoles 1 = .ok (.istore_n 1, 1) := by decide +kernel
theorem dX5_workOfHoles_2 : decode cX5_workOfHoles 2 = .ok (.iconst 0, 1) := by decide +kernel
theorem dX5_workOfHoles_3 : decode cX5_workOfHoles 3 = .ok (.istore_n 2, 1) := by decide +kernel
theorem dX5_workOfHoles_4 : decode cX5_workOfHoles 4 = .ok (.iload_n 2, 1) := by decide +kernel
theorem dX5_workOfHoles_5 : decode cX5_workOfHoles 5 = .ok (.aload_n 0, 1) := by decide +kernel
theorem dX5_workOfHoles_6 : decode cX5_workOfHoles 6 = .ok (.getfield 9, 3) := by decide +kernel
theorem dX5_workOfHoles_9 : decode cX5_workOfHoles 9 = .ok (.if_icmp .ge 20, 3) := by decide +kernel
theorem dX5_workOfHoles_12 : decode cX5_workOfHoles 12 = .ok (.iload_n 1, 1) := by decide +kernel
theorem dX5_workOfHoles_13 : decode cX5_workOfHoles 13 = .ok (.aload_n 0, 1) := by decide +kernel
theorem dX5_workOfHoles_14 : decode cX5_workOfHoles 14 = .ok (.getfield 39, 3) := by decide +kernel
theorem dX5_workOfHoles_17 : decode cX5_workOfHoles 17 = .ok (.iload_n 2, 1) := by decide +kernel
theorem dX5_workOfHoles_18 : decode cX5_workOfHoles 18 = .ok (.invokestatic 80, 3) := by decide +kernel
theorem dX5_workOfHoles_21 : decode cX5_workOfHoles 21 = .ok (.iadd, 1) := by decide +kernel
theorem dX5_workOfHoles_22 : decode cX5_workOfHoles 22 = .ok (.istore_n 1, 1) := by decide +kernel
theorem dX5_workOfHoles_23 : decode cX5_workOfHoles 23 = .ok (.iinc 2 1, 3) := by decide +kernel
theorem dX5_workOfHoles_26 : decode cX5_workOfHoles 26 = .ok (.goto (-22), 3) := by decide +kernel
theorem dX5_workOfHoles_29 : decode cX5_workOfHoles 29 = .ok (.iload_n 1, 1) := by decide +kernel
theorem dX5_workOfHoles_30 : decode cX5_workOfHoles 30 = .ok (.ireturn, 1) := by decide +kernel
theorem dX5_takeReading_0 : decode cX5_takeReading 0 = .ok (.aload_n 0, 1) := by decide +kernel
theorem dX5_takeReading_1 : decode cX5_takeReading 1 = .ok (.getfield 45, 3) := by decide +kernel
theorem dX5_takeReading_4 : decode cX5_takeReading 4 = .ok (.aload_n 1, 1) := by decide +kernel
theorem dX5_takeReading_5 : decode cX5_takeReading 5 = .ok (.iload_n 2, 1) := by decide +kernel
theorem dX5_takeReading_6 : decode cX5_takeReading 6 = .ok (.aload_n 0, 1) := by decide +kernel
theorem dX5_takeReading_7 : decode cX5_takeReading 7 = .ok (.getfield 15, 3) := by decide +kernel
theorem dX5_takeReading_10 : decode cX5_takeReading 10 = .ok (.invokevirtual 84, 3) := by decide +kernel
theorem dX5_takeReading_13 : decode cX5_takeReading 13 = .ok (.aload_n 0, 1) := by decide +kernel
theorem dX5_takeReading_14 : decode cX5_takeReading 14 = .ok (.dup, 1) := by decide +kernel
theorem dX5_takeReading_15 : decode cX5_takeReading 15 = .ok (.getfield 59, 3) := by decide +kernel
theorem dX5_takeReading_18 : decode cX5_takeReading 18 = .ok (.iconst 1, 1) := by decide +kernel
theorem dX5_takeReading_19 : decode cX5_takeReading 19 = .ok (.iadd, 1) := by decide +kernel
theorem dX5_takeReading_20 : decode cX5_takeReading 20 = .ok (.putfield 59, 3) := by decide +kernel
theorem dX5_takeReading_23 : decode cX5_takeReading 23 = .ok (.aload_n 0, 1) := by decide +kernel
theorem dX5_takeReading_24 : decode cX5_takeReading 24 = .ok (.dup, 1) := by decide +kernel
theorem dX5_takeReading_25 : decode cX5_takeReading 25 = .ok (.getfield 62, 3) := by decide +kernel
theorem dX5_takeReading_28 : decode cX5_takeReading 28 = .ok (.iconst 5, 1) := by decide +kernel
theorem dX5_takeReading_29 : decode cX5_takeReading 29 = .ok (.iadd, 1) := by decide +kernel
theorem dX5_takeReading_30 : decode cX5_takeReading 30 = .ok (.putfield 62, 3) := by decide +kernel
theorem dX5_takeReading_33 : decode cX5_takeReading 33 = .ok (.return_, 1) := by decide +kernel
theorem dX6_init_0 : decode cX6_init 0 = .ok (.aload_n 0, 1) := by decide +kernel
theorem dX6_init_1 : decode cX6_init 1 = .ok (.invokespecial 3, 3) := by decide +kernel
theorem dX6_init_4 : decode cX6_init 4 = .ok (.aload_n 0, 1) := by decide +kernel
theorem dX6_init_5 : decode cX6_init 5 = .ok (.bipush 50, 2) := by decide +kernel
theorem dX6_init_7 : decode cX6_init 7 = .ok (.newarray .int, 2) := by decide +kernel
theorem dX6_init_9 : decode cX6_init 9 = .ok (.putfield 9, 3) := by decide +kernel
theorem dX6_init_12 : decode cX6_init 12 = .ok (.return_, 1) := by decide +kernel
theorem dX6_add_0 : decode cX6_add 0 = .ok (.aload_n 0, 1) := by decide +kernel
theorem dX6_add_1 : decode cX6_add 1 = .ok (.getfield 9, 3) := by decide +kernel
theorem dX6_add_4 : decode cX6_add 4 = .ok (.aload_n 0, 1) := by decide +kernel
theorem dX6_add_5 : decode cX6_add 5 = .ok (.getfield 15, 3) := by decide +kernel
theorem dX6_add_8 : decode cX6_add 8 = .ok (.iload_n 1, 1) := by decide +kernel
theorem dX6_add_9 : decode cX6_add 9 = .ok (.invokestatic 19, 3) := by decide +kernel
theorem dX6_add_12 : decode cX6_add 12 = .ok (.aload_n 0, 1) := by decide +kernel
theorem dX6_add_13 : decode cX6_add 13 = .ok (.dup, 1) := by decide +kernel
theorem dX6_add_14 : decode cX6_add 14 = .ok (.getfield 15, 3) := by decide +kernel
theorem dX6_add_17 : decode cX6_add 17 = .ok (.iconst 1, 1) := by decide +kernel
theorem dX6_add_18 : decode cX6_add 18 = .ok (.iadd, 1) := by decide +kernel
theorem dX6_add_19 : decode cX6_add 19 = .ok (.putfield 15, 3) := by decide +kernel
theorem dX6_add_22 : decode cX6_add 22 = .ok (.return_, 1) := by decide +kernel
theorem dX6_firstWrong_0 : decode cX6_firstWrong 0 = .ok (.iconst 0, 1) := by decide +kernel
theorem dX6_firstWrong_1 : decode cX6_firstWrong 1 = .ok (.istore_n 1, 1) := by decide +kernel
theorem dX6_firstWrong_2 : decode cX6_firstWrong 2 = .ok (.iconst 0, 1) := by decide +kernel
theorem dX6_firstWrong_3 : decode cX6_firstWrong 3 = .ok (.istore_n 2, 1) := by decide +kernel
theorem dX6_firstWrong_4 : decode cX6_firstWrong 4 = .ok (.iconst 0, 1) := by decide +kernel
theorem dX6_firstWrong_5 : decode cX6_firstWrong 5 = .ok (.istore_n 3, 1) := by decide +kernel
theorem dX6_firstWrong_6 : decode cX6_firstWrong 6 = .ok (.iconst 0, 1) := by decide +kernel
theorem dX6_firstWrong_7 : decode cX6_firstWrong 7 = .ok (.istore 4, 2) := by decide +kernel
theorem dX6_firstWrong_9 : decode cX6_firstWrong 9 = .ok (.iload 4, 2) := by decide +kernel
theorem dX6_firstWrong_11 : decode cX6_firstWrong 11 = .ok (.aload_n 0, 1) := by decide +kernel
theorem dX6_firstWrong_12 : decode cX6_firstWrong 12 = .ok (.getfield 15, 3) := by decide +kernel
theorem dX6_firstWrong_15 : decode cX6_firstWrong 15 = .ok (.if_icmp .ge 92, 3) := by decide +kernel
theorem dX6_firstWrong_18 : decode cX6_firstWrong 18 = .ok (.aload_n 0, 1) := by decide +kernel
theorem dX6_firstWrong_19 : decode cX6_firstWrong 19 = .ok (.getfield 9, 3) := by decide +kernel
theorem dX6_firstWrong_22 : decode cX6_firstWrong 22 = .ok (.iload 4, 2) := by decide +kernel
theorem dX6_firstWrong_24 : decode cX6_firstWrong 24 = .ok (.invokestatic 25, 3) := by decide +kernel
theorem dX6_firstWrong_27 : decode cX6_firstWrong 27 = .ok (.istore 5, 2) := by decide +kernel
theorem dX6_firstWrong_29 : decode cX6_firstWrong 29 = .ok (.iload 5, 2) := by decide +kernel
theorem dX6_firstWrong_31 : decode cX6_firstWrong 31 = .ok (.invokestatic 29, 3) := by decide +kernel
theorem dX6_firstWrong_34 : decode cX6_firstWrong 34 = .ok (.ifCond .eq 35, 3) := by decide +kernel
theorem dX6_firstWrong_37 : decode cX6_firstWrong 37 = .ok (.iload_n 2, 1) := by decide +kernel
theorem dX6_firstWrong_38 : decode cX6_firstWrong 38 = .ok (.iconst 5, 1) := by decide +kernel
theorem dX6_firstWrong_39 : decode cX6_firstWrong 39 = .ok (.if_icmp .ge 30, 3) := by decide +kernel
theorem dX6_firstWrong_42 : decode cX6_firstWrong 42 = .ok (.iload_n 3, 1) := by decide +kernel
theorem dX6_firstWrong_43 : decode cX6_firstWrong 43 = .ok (.ifCond .ne 26, 3) := by decide +kernel
theorem dX6_firstWrong_46 : decode cX6_firstWrong 46 = .ok (.iload_n 2, 1) := by decide +kernel
theorem dX6_firstWrong_47 : decode cX6_firstWrong 47 = .ok (.ifCond .ne 14, 3) := by decide +kernel
theorem dX6_firstWrong_50 : decode cX6_firstWrong 50 = .ok (.iload 5, 2) := by decide +kernel
theorem dX6_firstWrong_52 : decode cX6_firstWrong 52 = .ok (.bipush 48, 2) := by decide +kernel
theorem dX6_firstWrong_54 : decode cX6_firstWrong 54 = .ok (.if_icmp .ne 7, 3) := by decide +kernel
theorem dX6_firstWrong_57 : decode cX6_firstWrong 57 = .ok (.iconst 1, 1) := by decide +kernel
theorem dX6_firstWrong_58 : decode cX6_firstWrong 58 = .ok (.goto 4, 3) := by decide +kernel
theorem dX6_firstWrong_61 : decode cX6_firstWrong 61 = .ok (.iconst 0, 1) := by decide +kernel
theorem dX6_firstWrong_62 : decode cX6_firstWrong 62 = .ok (.istore_n 3, 1) := by decide +kernel
theorem dX6_firstWrong_63 : decode cX6_firstWrong 63 = .ok (.iinc 2 1, 3) := by decide +kernel
theorem dX6_firstWrong_66 : decode cX6_firstWrong 66 = .ok (.goto 35, 3) := by decide +kernel
theorem dX6_firstWrong_69 : decode cX6_firstWrong 69 = .ok (.iload 5, 2) := by decide +kernel
theorem dX6_firstWrong_71 : decode cX6_firstWrong 71 = .ok (.bipush 44, 2) := by decide +kernel
theorem dX6_firstWrong_73 : decode cX6_firstWrong 73 = .ok (.if_icmp .ne 25, 3) := by decide +kernel
theorem dX6_firstWrong_76 : decode cX6_firstWrong 76 = .ok (.iload_n 2, 1) := by decide +kernel
theorem dX6_firstWrong_77 : decode cX6_firstWrong 77 = .ok (.ifCond .le 21, 3) := by decide +kernel
theorem dX6_firstWrong_80 : decode cX6_firstWrong 80 = .ok (.iload_n 1, 1) := by decide +kernel
theorem dX6_firstWrong_81 : decode cX6_firstWrong 81 = .ok (.iconst 1, 1) := by decide +kernel
theorem dX6_firstWrong_82 : decode cX6_firstWrong 82 = .ok (.iadd, 1) := by decide +kernel
theorem dX6_firstWrong_83 : decode cX6_firstWrong 83 = .ok (.bipush 8, 2) := by decide +kernel
theorem dX6_firstWrong_85 : decode cX6_firstWrong 85 = .ok (.if_icmp .ge 13, 3) := by decide +kernel
theorem dX6_firstWrong_88 : decode cX6_firstWrong 88 = .ok (.iinc 1 1, 3) := by decide +kernel
theorem dX6_firstWrong_91 : decode cX6_firstWrong 91 = .ok (.iconst 0, 1) := by decide +kernel
theorem dX6_firstWrong_92 : decode cX6_firstWrong 92 = .ok (.istore_n 2, 1) := by decide +kernel
theorem dX6_firstWrong_93 : decode cX6_firstWrong 93 = .ok (.iconst 0, 1) := by decide +kernel
theorem dX6_firstWrong_94 : decode cX6_firstWrong 94 = .ok (.istore_n 3, 1) := by decide +kernel
theorem dX6_firstWrong_95 : decode cX6_firstWrong 95 = .ok (.goto 6, 3) := by decide +kernel
theorem dX6_firstWrong_98 : decode cX6_firstWrong 98 = .ok (.iload 4, 2) := by decide +kernel
theorem dX6_firstWrong_100 : decode cX6_firstWrong 100 = .ok (.ireturn, 1) := by decide +kernel
theorem dX6_firstWrong_101 : decode cX6_firstWrong 101 = .ok (.iinc 4 1, 3) := by decide +kernel
theorem dX6_firstWrong_104 : decode cX6_firstWrong 104 = .ok (.goto (-95), 3) := by decide +kernel
theorem dX6_firstWrong_107 : decode cX6_firstWrong 107 = .ok (.aload_n 0, 1) := by decide +kernel
theorem dX6_firstWrong_108 : decode cX6_firstWrong 108 = .ok (.getfield 15, 3) := by decide +kernel
theorem dX6_firstWrong_111 : decode cX6_firstWrong 111 = .ok (.ireturn, 1) := by decide +kernel
theorem dX6_tellsReading_0 : decode cX6_tellsReading 0 = .ok (.aload_n 0, 1) := by decide +kernel
theorem dX6_tellsReading_1 : decode cX6_tellsReading 1 = .ok (.getfield 15, 3) := by decide +kernel
theorem dX6_tellsReading_4 : decode cX6_tellsReading 4 = .ok (.ifCond .le 37, 3) := by decide +kernel
theorem dX6_tellsReading_7 : decode cX6_tellsReading 7 = .ok (.aload_n 0, 1) := by decide +kernel
theorem dX6_tellsReading_8 : decode cX6_tellsReading 8 = .ok (.getfield 9, 3) := by decide +kernel
theorem dX6_tellsReading_11 : decode cX6_tellsReading 11 = .ok (.aload_n 0, 1) := by decide +kernel
theorem dX6_tellsReading_12 : decode cX6_tellsReading 12 = .ok (.getfield 15, 3) := by decide +kernel
theorem dX6_tellsReading_15 : decode cX6_tellsReading 15 = .ok (.iconst 1, 1) := by decide +kernel
theorem dX6_tellsReading_16 : decode cX6_tellsReading 16 = .ok (.isub, 1) := by decide +kernel
theorem dX6_tellsReading_17 : decode cX6_tellsReading 17 = .ok (.invokestatic 25, 3) := by decide +kernel
theorem dX6_tellsReading_20 : decode cX6_tellsReading 20 = .ok (.invokestatic 29, 3) := by decide +kernel
theorem dX6_tellsReading_23 : decode cX6_tellsReading 23 = .ok (.ifCond .eq 18, 3) := by decide +kernel
theorem dX6_tellsReading_26 : decode cX6_tellsReading 26 = .ok (.aload_n 0, 1) := by decide +kernel
theorem dX6_tellsReading_27 : decode cX6_tellsReading 27 = .ok (.invokevirtual 33, 3) := by decide +kernel
theorem dX6_tellsReading_30 : decode cX6_tellsReading 30 = .ok (.aload_n 0, 1) := by decide +kernel
theorem dX6_tellsReading_31 : decode cX6_tellsReading 31 = .ok (.getfield 15, 3) := by decide +kernel
theorem dX6_tellsReading_34 : decode cX6_tellsReading 34 = .ok (.if_icmp .ne 7, 3) := by decide +kernel
theorem dX6_tellsReading_37 : decode cX6_tellsReading 37 = .ok (.iconst 1, 1) := by decide +kernel
theorem dX6_tellsReading_38 : decode cX6_tellsReading 38 = .ok (.goto 4, 3) := by decide +kernel
theorem dX6_tellsReading_41 : decode cX6_tellsReading 41 = .ok (.iconst 0, 1) := by decide +kernel
theorem dX6_tellsReading_42 : decode cX6_tellsReading 42 = .ok (.ireturn, 1) := by decide +kernel
theorem dX6_headsInto_0 : decode cX6_headsInto 0 = .ok (.iconst 0, 1) := by decide +kernel
theorem dX6_headsInto_1 : decode cX6_headsInto 1 = .ok (.istore_n 2, 1) := by decide +kernel
theorem dX6_headsInto_2 : decode cX6_headsInto 2 = .ok (.iconst 0, 1) := by decide +kernel
theorem dX6_headsInto_3 : decode cX6_headsInto 3 = .ok (.istore_n 3, 1) := by decide +kernel
theorem dX6_headsInto_4 : decode cX6_headsInto 4 = .ok (.iconst 0, 1) := by decide +kernel
theorem dX6_headsInto_5 : decode cX6_headsInto 5 = .ok (.istore 4, 2) := by decide +kernel
theorem dX6_headsInto_7 : decode cX6_headsInto 7 = .ok (.iload 4, 2) := by decide +kernel
theorem dX6_headsInto_9 : decode cX6_headsInto 9 = .ok (.aload_n 0, 1) := by decide +kernel
theorem dX6_headsInto_10 : decode cX6_headsInto 10 = .ok (.getfield 15, 3) := by decide +kernel
theorem dX6_headsInto_13 : decode cX6_headsInto 13 = .ok (.if_icmp .ge 53, 3) := by decide +kernel
theorem dX6_headsInto_16 : decode cX6_headsInto 16 = .ok (.aload_n 0, 1) := by decide +kernel
theorem dX6_headsInto_17 : decode cX6_headsInto 17 = .ok (.getfield 9, 3) := by decide +kernel
theorem dX6_headsInto_20 : decode cX6_headsInto 20 = .ok (.iload 4, 2) := by decide +kernel
theorem dX6_headsInto_22 : decode cX6_headsInto 22 = .ok (.invokestatic 25, 3) := by decide +kernel
theorem dX6_headsInto_25 : decode cX6_headsInto 25 = .ok (.istore 5, 2) := by decide +kernel
theorem dX6_headsInto_27 : decode cX6_headsInto 27 = .ok (.iload 5, 2) := by decide +kernel
theorem dX6_headsInto_29 : decode cX6_headsInto 29 = .ok (.invokestatic 29, 3) := by decide +kernel
theorem dX6_headsInto_32 : decode cX6_headsInto 32 = .ok (.ifCond .eq 17, 3) := by decide +kernel
theorem dX6_headsInto_35 : decode cX6_headsInto 35 = .ok (.bipush 10, 2) := by decide +kernel
theorem dX6_headsInto_37 : decode cX6_headsInto 37 = .ok (.iload_n 3, 1) := by decide +kernel
theorem dX6_headsInto_38 : decode cX6_headsInto 38 = .ok (.imul, 1) := by decide +kernel
theorem dX6_headsInto_39 : decode cX6_headsInto 39 = .ok (.iload 5, 2) := by decide +kernel
theorem dX6_headsInto_41 : decode cX6_headsInto 41 = .ok (.bipush 48, 2) := by decide +kernel
theorem dX6_headsInto_43 : decode cX6_headsInto 43 = .ok (.isub, 1) := by decide +kernel
theorem dX6_headsInto_44 : decode cX6_headsInto 44 = .ok (.iadd, 1) := by decide +kernel
theorem dX6_headsInto_45 : decode cX6_headsInto 45 = .ok (.istore_n 3, 1) := by decide +kernel
theorem dX6_headsInto_46 : decode cX6_headsInto 46 = .ok (.goto 14, 3) := by decide +kernel
theorem dX6_headsInto_49 : decode cX6_headsInto 49 = .ok (.aload_n 1, 1) := by decide +kernel
theorem dX6_headsInto_50 : decode cX6_headsInto 50 = .ok (.iload_n 2, 1) := by decide +kernel
theorem dX6_headsInto_51 : decode cX6_headsInto 51 = .ok (.iload_n 3, 1) := by decide +kernel
theorem dX6_headsInto_52 : decode cX6_headsInto 52 = .ok (.invokestatic 19, 3) := by decide +kernel
theorem dX6_headsInto_55 : decode cX6_headsInto 55 = .ok (.iinc 2 1, 3) := by decide +kernel
theorem dX6_headsInto_58 : decode cX6_headsInto 58 = .ok (.iconst 0, 1) := by decide +kernel
theorem dX6_headsInto_59 : decode cX6_headsInto 59 = .ok (.istore_n 3, 1) := by decide +kernel
theorem dX6_headsInto_60 : decode cX6_headsInto 60 = .ok (.iinc 4 1, 3) := by decide +kernel
theorem dX6_headsInto_63 : decode cX6_headsInto 63 = .ok (.goto (-56), 3) := by decide +kernel
theorem dX6_headsInto_66 : decode cX6_headsInto 66 = .ok (.aload_n 1, 1) := by decide +kernel
theorem dX6_headsInto_67 : decode cX6_headsInto 67 = .ok (.iload_n 2, 1) := by decide +kernel
theorem dX6_headsInto_68 : decode cX6_headsInto 68 = .ok (.iload_n 3, 1) := by decide +kernel
theorem dX6_headsInto_69 : decode cX6_headsInto 69 = .ok (.invokestatic 19, 3) := by decide +kernel
theorem dX6_headsInto_72 : decode cX6_headsInto 72 = .ok (.iload_n 2, 1) := by decide +kernel
theorem dX6_headsInto_73 : decode cX6_headsInto 73 = .ok (.iconst 1, 1) := by decide +kernel
theorem dX6_headsInto_74 : decode cX6_headsInto 74 = .ok (.iadd, 1) := by decide +kernel
theorem dX6_headsInto_75 : decode cX6_headsInto 75 = .ok (.ireturn, 1) := by decide +kernel
theorem dX6_isDigit_0 : decode cX6_isDigit 0 = .ok (.iload_n 0, 1) := by decide +kernel
theorem dX6_isDigit_1 : decode cX6_isDigit 1 = .ok (.bipush 48, 2) := by decide +kernel
theorem dX6_isDigit_3 : decode cX6_isDigit 3 = .ok (.if_icmp .lt 13, 3) := by decide +kernel
theorem dX6_isDigit_6 : decode cX6_isDigit 6 = .ok (.iload_n 0, 1) := by decide +kernel
theorem dX6_isDigit_7 : decode cX6_isDigit 7 = .ok (.bipush 57, 2) := by decide +kernel
theorem dX6_isDigit_9 : decode cX6_isDigit 9 = .ok (.if_icmp .gt 7, 3) := by decide +kernel
theorem dX6_isDigit_12 : decode cX6_isDigit 12 = .ok (.iconst 1, 1) := by decide +kernel
theorem dX6_isDigit_13 : decode cX6_isDigit 13 = .ok (.goto 4, 3) := by decide +kernel
theorem dX6_isDigit_16 : decode cX6_isDigit 16 = .ok (.iconst 0, 1) := by decide +kernel
theorem dX6_isDigit_17 : decode cX6_isDigit 17 = .ok (.ireturn, 1) := by decide +kernel
theorem dX7_init_0 : decode cX7_init 0 = .ok (.aload_n 0, 1) := by decide +kernel
theorem dX7_init_1 : decode cX7_init 1 = .ok (.invokespecial 3, 3) := by decide +kernel
theorem dX7_init_4 : decode cX7_init 4 = .ok (.aload_n 0, 1) := by decide +kernel
theorem dX7_init_5 : decode cX7_init 5 = .ok (.bipush 8, 2) := by decide +kernel
theorem dX7_init_7 : decode cX7_init 7 = .ok (.newarray .int, 2) := by decide +kernel
theorem dX7_init_9 : decode cX7_init 9 = .ok (.putfield 9, 3) := by decide +kernel
theorem dX7_init_12 : decode cX7_init 12 = .ok (.aload_n 0, 1) := by decide +kernel
theorem dX7_init_13 : decode cX7_init 13 = .ok (.bipush 8, 2) := by decide +kernel
theorem dX7_init_15 : decode cX7_init 15 = .ok (.newarray .int, 2) := by decide +kernel
theorem dX7_init_17 : decode cX7_init 17 = .ok (.putfield 15, 3) := by decide +kernel
theorem dX7_init_20 : decode cX7_init 20 = .ok (.aload_n 0, 1) := by decide +kernel
theorem dX7_init_21 : decode cX7_init 21 = .ok (.bipush 8, 2) := by decide +kernel
theorem dX7_init_23 : decode cX7_init 23 = .ok (.newarray .int, 2) := by decide +kernel
theorem dX7_init_25 : decode cX7_init 25 = .ok (.putfield 18, 3) := by decide +kernel
theorem dX7_init_28 : decode cX7_init 28 = .ok (.return_, 1) := by decide +kernel
theorem dX7_judge_0 : decode cX7_judge 0 = .ok (.aload_n 0, 1) := by decide +kernel
theorem dX7_judge_1 : decode cX7_judge 1 = .ok (.aload_n 1, 1) := by decide +kernel
theorem dX7_judge_2 : decode cX7_judge 2 = .ok (.invokevirtual 21, 3) := by decide +kernel
theorem dX7_judge_5 : decode cX7_judge 5 = .ok (.aload_n 0, 1) := by decide +kernel
theorem dX7_judge_6 : decode cX7_judge 6 = .ok (.aload_n 1, 1) := by decide +kernel
theorem dX7_judge_7 : decode cX7_judge 7 = .ok (.iconst (-1), 1) := by decide +kernel
theorem dX7_judge_8 : decode cX7_judge 8 = .ok (.invokevirtual 25, 3) := by decide +kernel
theorem dX7_judge_11 : decode cX7_judge 11 = .ok (.aload_n 0, 1) := by decide +kernel
theorem dX7_judge_12 : decode cX7_judge 12 = .ok (.invokevirtual 29, 3) := by decide +kernel
theorem dX7_judge_15 : decode cX7_judge 15 = .ok (.return_, 1) := by decide +kernel
theorem dX7_judgeIfRight_0 : decode cX7_judgeIfRight 0 = .ok (.aload_n 0, 1) := by decide +kernel
theorem dX7_judgeIfRight_1 : decode cX7_judgeIfRight 1 = .ok (.aload_n 1, 1) := by decide +kernel
theorem dX7_judgeIfRight_2 : decode cX7_judgeIfRight 2 = .ok (.invokevirtual 21, 3) := by decide +kernel
theorem dX7_judgeIfRight_5 : decode cX7_judgeIfRight 5 = .ok (.aload_n 0, 1) := by decide +kernel
theorem dX7_judgeIfRight_6 : decode cX7_judgeIfRight 6 = .ok (.getfield 9, 3) := by decide +kernel
theorem dX7_judgeIfRight_9 : decode cX7_judgeIfRight 9 = .ok (.iload_n 2, 1) := by decide +kernel
theorem dX7_judgeIfRight_10 : decode cX7_judgeIfRight 10 = .ok (.iload_n 3, 1) := by decide +kernel
theorem dX7_judgeIfRight_11 : decode cX7_judgeIfRight 11 = .ok (.invokestatic 32, 3) := by decide +kernel
theorem dX7_judgeIfRight_14 : decode cX7_judgeIfRight 14 = .ok (.aload_n 0, 1) := by decide +kernel
theorem dX7_judgeIfRight_15 : decode cX7_judgeIfRight 15 = .ok (.aload_n 1, 1) := by decide +kernel
theorem dX7_judgeIfRight_16 : decode cX7_judgeIfRight 16 = .ok (.iload_n 2, 1) := by decide +kernel
theorem dX7_judgeIfRight_17 : decode cX7_judgeIfRight 17 = .ok (.invokevirtual 25, 3) := by decide +kernel
theorem dX7_judgeIfRight_20 : decode cX7_judgeIfRight 20 = .ok (.aload_n 0, 1) := by decide +kernel
theorem dX7_judgeIfRight_21 : decode cX7_judgeIfRight 21 = .ok (.invokevirtual 29, 3) := by decide +kernel
theorem dX7_judgeIfRight_24 : decode cX7_judgeIfRight 24 = .ok (.return_, 1) := by decide +kernel
theorem dX7_takeMeans_0 : decode cX7_takeMeans 0 = .ok (.aload_n 0, 1) := by decide +kernel
theorem dX7_takeMeans_1 : decode cX7_takeMeans 1 = .ok (.aload_n 1, 1) := by decide +kernel
theorem dX7_takeMeans_2 : decode cX7_takeMeans 2 = .ok (.getfield 38, 3) := by decide +kernel
theorem dX7_takeMeans_5 : decode cX7_takeMeans 5 = .ok (.putfield 44, 3) := by decide +kernel
theorem dX7_takeMeans_8 : decode cX7_takeMeans 8 = .ok (.aload_n 0, 1) := by decide +kernel
theorem dX7_takeMeans_9 : decode cX7_takeMeans 9 = .ok (.aload_n 1, 1) := by decide +kernel
theorem dX7_takeMeans_10 : decode cX7_takeMeans 10 = .ok (.getfield 45, 3) := by decide +kernel
theorem dX7_takeMeans_13 : decode cX7_takeMeans 13 = .ok (.putfield 48, 3) := by decide +kernel
theorem dX7_takeMeans_16 : decode cX7_takeMeans 16 = .ok (.aload_n 0, 1) := by decide +kernel
theorem dX7_takeMeans_17 : decode cX7_takeMeans 17 = .ok (.iconst 0, 1) := by decide +kernel
theorem dX7_takeMeans_18 : decode cX7_takeMeans 18 = .ok (.putfield 49, 3) := by decide +kernel
theorem dX7_takeMeans_21 : decode cX7_takeMeans 21 = .ok (.aload_n 0, 1) := by decide +kernel
theorem dX7_takeMeans_22 : decode cX7_takeMeans 22 = .ok (.getfield 9, 3) := by decide +kernel
theorem dX7_takeMeans_25 : decode cX7_takeMeans 25 = .ok (.invokestatic 52, 3) := by decide +kernel
theorem dX7_takeMeans_28 : decode cX7_takeMeans 28 = .ok (.aload_n 1, 1) := by decide +kernel
theorem dX7_takeMeans_29 : decode cX7_takeMeans 29 = .ok (.getfield 56, 3) := by decide +kernel
theorem dX7_takeMeans_32 : decode cX7_takeMeans 32 = .ok (.astore_n 2, 1) := by decide +kernel
theorem dX7_takeMeans_33 : decode cX7_takeMeans 33 = .ok (.iconst 0, 1) := by decide +kernel
theorem dX7_takeMeans_34 : decode cX7_takeMeans 34 = .ok (.istore_n 3, 1) := by decide +kernel
theorem dX7_takeMeans_35 : decode cX7_takeMeans 35 = .ok (.iload_n 3, 1) := by decide +kernel
theorem dX7_takeMeans_36 : decode cX7_takeMeans 36 = .ok (.aload_n 2, 1) := by decide +kernel
theorem dX7_takeMeans_37 : decode cX7_takeMeans 37 = .ok (.getfield 60, 3) := by decide +kernel
theorem dX7_takeMeans_40 : decode cX7_takeMeans 40 = .ok (.if_icmp .ge 79, 3) := by decide +kernel
theorem dX7_takeMeans_43 : decode cX7_takeMeans 43 = .ok (.aload_n 2, 1) := by decide +kernel
theorem dX7_takeMeans_44 : decode cX7_takeMeans 44 = .ok (.iload_n 3, 1) := by decide +kernel
theorem dX7_takeMeans_45 : decode cX7_takeMeans 45 = .ok (.aload_n 0, 1) := by decide +kernel
theorem dX7_takeMeans_46 : decode cX7_takeMeans 46 = .ok (.getfield 44, 3) := by decide +kernel
theorem dX7_takeMeans_49 : decode cX7_takeMeans 49 = .ok (.aload_n 0, 1) := by decide +kernel
theorem dX7_takeMeans_50 : decode cX7_takeMeans 50 = .ok (.getfield 48, 3) := by decide +kernel
theorem dX7_takeMeans_53 : decode cX7_takeMeans 53 = .ok (.invokevirtual 65, 3) := by decide +kernel
theorem dX7_takeMeans_56 : decode cX7_takeMeans 56 = .ok (.ifCond .eq 57, 3) := by decide +kernel
theorem dX7_takeMeans_59 : decode cX7_takeMeans 59 = .ok (.aload_n 0, 1) := by decide +kernel
theorem dX7_takeMeans_60 : decode cX7_takeMeans 60 = .ok (.dup, 1) := by decide +kernel
theorem dX7_takeMeans_61 : decode cX7_takeMeans 61 = .ok (.getfield 49, 3) := by decide +kernel
theorem dX7_takeMeans_64 : decode cX7_takeMeans 64 = .ok (.iconst 1, 1) := by decide +kernel
theorem dX7_takeMeans_65 : decode cX7_takeMeans 65 = .ok (.iadd, 1) := by decide +kernel
theorem dX7_takeMeans_66 : decode cX7_takeMeans 66 = .ok (.putfield 49, 3) := by decide +kernel
theorem dX7_takeMeans_69 : decode cX7_takeMeans 69 = .ok (.iconst 0, 1) := by decide +kernel
theorem dX7_takeMeans_70 : decode cX7_takeMeans 70 = .ok (.istore 4, 2) := by decide +kernel
theorem dX7_takeMeans_72 : decode cX7_takeMeans 72 = .ok (.iload 4, 2) := by decide +kernel
theorem dX7_takeMeans_74 : decode cX7_takeMeans 74 = .ok (.aload_n 0, 1) := by decide +kernel
theorem dX7_takeMeans_75 : decode cX7_takeMeans 75 = .ok (.getfield 44, 3) := by decide +kernel
theorem dX7_takeMeans_78 : decode cX7_takeMeans 78 = .ok (.if_icmp .ge 35, 3) := by decide +kernel
theorem dX7_takeMeans_81 : decode cX7_takeMeans 81 = .ok (.aload_n 0, 1) := by decide +kernel
theorem dX7_takeMeans_82 : decode cX7_takeMeans 82 = .ok (.getfield 9, 3) := by decide +kernel
theorem dX7_takeMeans_85 : decode cX7_takeMeans 85 = .ok (.iload 4, 2) := by decide +kernel
theorem dX7_takeMeans_87 : decode cX7_takeMeans 87 = .ok (.aload_n 0, 1) := by decide +kernel
theorem dX7_takeMeans_88 : decode cX7_takeMeans 88 = .ok (.getfield 9, 3) := by decide +kernel
theorem dX7_takeMeans_91 : decode cX7_takeMeans 91 = .ok (.iload 4, 2) := by decide +kernel
theorem dX7_takeMeans_93 : decode cX7_takeMeans 93 = .ok (.invokestatic 69, 3) := by decide +kernel
theorem dX7_takeMeans_96 : decode cX7_takeMeans 96 = .ok (.aload_n 2, 1) := by decide +kernel
theorem dX7_takeMeans_97 : decode cX7_takeMeans 97 = .ok (.iload_n 3, 1) := by decide +kernel
theorem dX7_takeMeans_98 : decode cX7_takeMeans 98 = .ok (.iload 4, 2) := by decide +kernel
theorem dX7_takeMeans_100 : decode cX7_takeMeans 100 = .ok (.invokevirtual 73, 3) := by decide +kernel
theorem dX7_takeMeans_103 : decode cX7_takeMeans 103 = .ok (.iadd, 1) := by decide +kernel
theorem dX7_takeMeans_104 : decode cX7_takeMeans 104 = .ok (.invokestatic 32, 3) := by decide +kernel
theorem dX7_takeMeans_107 : decode cX7_takeMeans 107 = .ok (.iinc 4 1, 3) := by decide +kernel
theorem dX7_takeMeans_110 : decode cX7_takeMeans 110 = .ok (.goto (-38), 3) := by decide +kernel
theorem dX7_takeMeans_113 : decode cX7_takeMeans 113 = .ok (.iinc 3 1, 3) := by decide +kernel
theorem dX7_takeMeans_116 : decode cX7_takeMeans 116 = .ok (.goto (-81), 3) := by decide +kernel
theorem dX7_takeMeans_119 : decode cX7_takeMeans 119 = .ok (.iconst 0, 1) := by decide +kernel
theorem dX7_takeMeans_120 : decode cX7_takeMeans 120 = .ok (.istore_n 3, 1) := by decide +kernel
theorem dX7_takeMeans_121 : decode cX7_takeMeans 121 = .ok (.iload_n 3, 1) := by decide +kernel
theorem dX7_takeMeans_122 : decode cX7_takeMeans 122 = .ok (.aload_n 0, 1) := by decide +kernel
theorem dX7_takeMeans_123 : decode cX7_takeMeans 123 = .ok (.getfield 44, 3) := by decide +kernel
theorem dX7_takeMeans_126 : decode cX7_takeMeans 126 = .ok (.if_icmp .ge 32, 3) := by decide +kernel
theorem dX7_takeMeans_129 : decode cX7_takeMeans 129 = .ok (.aload_n 0, 1) := by decide +kernel
theorem dX7_takeMeans_130 : decode cX7_takeMeans 130 = .ok (.getfield 9, 3) := by decide +kernel
theorem dX7_takeMeans_133 : decode cX7_takeMeans 133 = .ok (.iload_n 3, 1) := by decide +kernel
theorem dX7_takeMeans_134 : decode cX7_takeMeans 134 = .ok (.aload_n 0, 1) := by decide +kernel
theorem dX7_takeMeans_135 : decode cX7_takeMeans 135 = .ok (.getfield 9, 3) := by decide +kernel
theorem dX7_takeMeans_138 : decode cX7_takeMeans 138 = .ok (.iload_n 3, 1) := by decide +kernel
theorem dX7_takeMeans_139 : decode cX7_takeMeans 139 = .ok (.invokestatic 69, 3) := by decide +kernel
theorem dX7_takeMeans_142 : decode cX7_takeMeans 142 = .ok (.aload_n 0, 1) := by decide +kernel
theorem dX7_takeMeans_143 : decode cX7_takeMeans 143 = .ok (.getfield 49, 3) := by decide +kernel
theorem dX7_takeMeans_146 : decode cX7_takeMeans 146 = .ok (.invokestatic 77, 3) := by decide +kernel
theorem dX7_takeMeans_149 : decode cX7_takeMeans 149 = .ok (.invokestatic 32, 3) := by decide +kernel
theorem dX7_takeMeans_152 : decode cX7_takeMeans 152 = .ok (.iinc 3 1, 3) := by decide +kernel
theorem dX7_takeMeans_155 : decode cX7_takeMeans 155 = .ok (.goto (-34), 3) := by decide +kernel
theorem dX7_takeMeans_158 : decode cX7_takeMeans 158 = .ok (.return_, 1) := by decide +kernel
theorem dX7_giveReasons_0 : decode cX7_giveReasons 0 = .ok (.iconst 0, 1) := by decide +kernel
theorem dX7_giveReasons_1 : decode cX7_giveReasons 1 = .ok (.istore_n 3, 1) := by decide +kernel
theorem dX7_giveReasons_2 : decode cX7_giveReasons 2 = .ok (.iconst 0, 1) := by decide +kernel
theorem dX7_giveReasons_3 : decode cX7_giveReasons 3 = .ok (.istore 4, 2) := by decide +kernel
theorem dX7_giveReasons_5 : decode cX7_giveReasons 5 = .ok (.iload 4, 2) := by decide +kernel
theorem dX7_giveReasons_7 : decode cX7_giveReasons 7 = .ok (.aload_n 0, 1) := by decide +kernel
theorem dX7_giveReasons_8 : decode cX7_giveReasons 8 = .ok (.getfield 44, 3) := by decide +kernel
theorem dX7_giveReasons_11 : decode cX7_giveReasons 11 = .ok (.if_icmp .ge 23, 3) := by decide +kernel
theorem dX7_giveReasons_14 : decode cX7_giveReasons 14 = .ok (.iload_n 3, 1) := by decide +kernel
theorem dX7_giveReasons_15 : decode cX7_giveReasons 15 = .ok (.aload_n 0, 1) := by decide +kernel
theorem dX7_giveReasons_16 : decode cX7_giveReasons 16 = .ok (.getfield 9, 3) := by decide +kernel
theorem dX7_giveReasons_19 : decode cX7_giveReasons 19 = .ok (.iload 4, 2) := by decide +kernel
theorem dX7_giveReasons_21 : decode cX7_giveReasons 21 = .ok (.invokestatic 69, 3) := by decide +kernel
theorem dX7_giveReasons_24 : decode cX7_giveReasons 24 = .ok (.invokestatic 82, 3) := by decide +kernel
theorem dX7_giveReasons_27 : decode cX7_giveReasons 27 = .ok (.istore_n 3, 1) := by decide +kernel
theorem dX7_giveReasons_28 : decode cX7_giveReasons 28 = .ok (.iinc 4 1, 3) := by decide +kernel
theorem dX7_giveReasons_31 : decode cX7_giveReasons 31 = .ok (.goto (-26), 3) := by decide +kernel
theorem dX7_giveReasons_34 : decode cX7_giveReasons 34 = .ok (.aload_n 1, 1) := by decide +kernel
theorem dX7_giveReasons_35 : decode cX7_giveReasons 35 = .ok (.getfield 87, 3) := by decide +kernel
theorem dX7_giveReasons_38 : decode cX7_giveReasons 38 = .ok (.iconst 3, 1) := by decide +kernel
theorem dX7_giveReasons_39 : decode cX7_giveReasons 39 = .ok (.invokestatic 69, 3) := by decide +kernel
theorem dX7_giveReasons_42 : decode cX7_giveReasons 42 = .ok (.iload_n 3, 1) := by decide +kernel
theorem dX7_giveReasons_43 : decode cX7_giveReasons 43 = .ok (.imul, 1) := by decide +kernel
theorem dX7_giveReasons_44 : decode cX7_giveReasons 44 = .ok (.istore 4, 2) := by decide +kernel
theorem dX7_giveReasons_46 : decode cX7_giveReasons 46 = .ok (.aload_n 0, 1) := by decide +kernel
theorem dX7_giveReasons_47 : decode cX7_giveReasons 47 = .ok (.iconst 0, 1) := by decide +kernel
theorem dX7_giveReasons_48 : decode cX7_giveReasons 48 = .ok (.putfield 90, 3) := by decide +kernel
theorem dX7_giveReasons_51 : decode cX7_giveReasons 51 = .ok (.iconst 0, 1) := by decide +kernel
theorem dX7_giveReasons_52 : decode cX7_giveReasons 52 = .ok (.istore 5, 2) := by decide +kernel
theorem dX7_giveReasons_54 : decode cX7_giveReasons 54 = .ok (.iload 5, 2) := by decide +kernel
theorem dX7_giveReasons_56 : decode cX7_giveReasons 56 = .ok (.aload_n 0, 1) := by decide +kernel
theorem dX7_giveReasons_57 : decode cX7_giveReasons 57 = .ok (.getfield 44, 3) := by decide +kernel
theorem dX7_giveReasons_60 : decode cX7_giveReasons 60 = .ok (.if_icmp .ge 84, 3) := by decide +kernel
theorem dX7_giveReasons_63 : decode cX7_giveReasons 63 = .ok (.iload 5, 2) := by decide +kernel
theorem dX7_giveReasons_65 : decode cX7_giveReasons 65 = .ok (.iload_n 2, 1) := by decide +kernel
theorem dX7_giveReasons_66 : decode cX7_giveReasons 66 = .ok (.if_icmp .eq 20, 3) := by decide +kernel
theorem dX7_giveReasons_69 : decode cX7_giveReasons 69 = .ok (.aload_n 1, 1) := by decide +kernel
theorem dX7_giveReasons_70 : decode cX7_giveReasons 70 = .ok (.getfield 93, 3) := by decide +kernel
theorem dX7_giveReasons_73 : decode cX7_giveReasons 73 = .ok (.iload 5, 2) := by decide +kernel
theorem dX7_giveReasons_75 : decode cX7_giveReasons 75 = .ok (.invokestatic 69, 3) := by decide +kernel
theorem dX7_giveReasons_78 : decode cX7_giveReasons 78 = .ok (.iconst 2, 1) := by decide +kernel
theorem dX7_giveReasons_79 : decode cX7_giveReasons 79 = .ok (.if_icmp .ne 7, 3) := by decide +kernel
theorem dX7_giveReasons_82 : decode cX7_giveReasons 82 = .ok (.iconst 1, 1) := by decide +kernel
theorem dX7_giveReasons_83 : decode cX7_giveReasons 83 = .ok (.goto 4, 3) := by decide +kernel
theorem dX7_giveReasons_86 : decode cX7_giveReasons 86 = .ok (.iconst 0, 1) := by decide +kernel
theorem dX7_giveReasons_87 : decode cX7_giveReasons 87 = .ok (.istore 6, 2) := by decide +kernel
theorem dX7_giveReasons_89 : decode cX7_giveReasons 89 = .ok (.aload_n 0, 1) := by decide +kernel
theorem dX7_giveReasons_90 : decode cX7_giveReasons 90 = .ok (.aload_n 0, 1) := by decide +kernel
theorem dX7_giveReasons_91 : decode cX7_giveReasons 91 = .ok (.getfield 9, 3) := by decide +kernel
theorem dX7_giveReasons_94 : decode cX7_giveReasons 94 = .ok (.iload 5, 2) := by decide +kernel
theorem dX7_giveReasons_96 : decode cX7_giveReasons 96 = .ok (.invokestatic 69, 3) := by decide +kernel
theorem dX7_giveReasons_99 : decode cX7_giveReasons 99 = .ok (.iload 4, 2) := by decide +kernel
theorem dX7_giveReasons_101 : decode cX7_giveReasons 101 = .ok (.iload 6, 2) := by decide +kernel
theorem dX7_giveReasons_103 : decode cX7_giveReasons 103 = .ok (.invokevirtual 96, 3) := by decide +kernel
theorem dX7_giveReasons_106 : decode cX7_giveReasons 106 = .ok (.istore 7, 2) := by decide +kernel
theorem dX7_giveReasons_108 : decode cX7_giveReasons 108 = .ok (.aload_n 0, 1) := by decide +kernel
theorem dX7_giveReasons_109 : decode cX7_giveReasons 109 = .ok (.getfield 15, 3) := by decide +kernel
theorem dX7_giveReasons_112 : decode cX7_giveReasons 112 = .ok (.iload 5, 2) := by decide +kernel
theorem dX7_giveReasons_114 : decode cX7_giveReasons 114 = .ok (.iload 7, 2) := by decide +kernel
theorem dX7_giveReasons_116 : decode cX7_giveReasons 116 = .ok (.invokestatic 32, 3) := by decide +kernel
theorem dX7_giveReasons_119 : decode cX7_giveReasons 119 = .ok (.aload_n 0, 1) := by decide +kernel
theorem dX7_giveReasons_120 : decode cX7_giveReasons 120 = .ok (.dup, 1) := by decide +kernel
theorem dX7_giveReasons_121 : decode cX7_giveReasons 121 = .ok (.getfield 90, 3) := by decide +kernel
theorem dX7_giveReasons_124 : decode cX7_giveReasons 124 = .ok (.iload 7, 2) := by decide +kernel
theorem dX7_giveReasons_126 : decode cX7_giveReasons 126 = .ok (.ifCond .ne 7, 3) := by decide +kernel
theorem dX7_giveReasons_129 : decode cX7_giveReasons 129 = .ok (.iconst 1, 1) := by decide +kernel
theorem dX7_giveReasons_130 : decode cX7_giveReasons 130 = .ok (.goto 4, 3) := by decide +kernel
theorem dX7_giveReasons_133 : decode cX7_giveReasons 133 = .ok (.iconst 0, 1) := by decide +kernel
theorem dX7_giveReasons_134 : decode cX7_giveReasons 134 = .ok (.iadd, 1) := by decide +kernel
theorem dX7_giveReasons_135 : decode cX7_giveReasons 135 = .ok (.putfield 90, 3) := by decide +kernel
theorem dX7_giveReasons_138 : decode cX7_giveReasons 138 = .ok (.iinc 5 1, 3) := by decide +kernel
theorem dX7_giveReasons_141 : decode cX7_giveReasons 141 = .ok (.goto (-87), 3) := by decide +kernel
theorem dX7_giveReasons_144 : decode cX7_giveReasons 144 = .ok (.return_, 1) := by decide +kernel
theorem dX7_reasonFor_0 : decode cX7_reasonFor 0 = .ok (.aload_n 0, 1) := by decide +kernel
theorem dX7_reasonFor_1 : decode cX7_reasonFor 1 = .ok (.getfield 49, 3) := by decide +kernel
theorem dX7_reasonFor_4 : decode cX7_reasonFor 4 = .ok (.ifCond .ne 5, 3) := by decide +kernel
theorem dX7_reasonFor_7 : decode cX7_reasonFor 7 = .ok (.iconst 1, 1) := by decide +kernel
theorem dX7_reasonFor_8 : decode cX7_reasonFor 8 = .ok (.ireturn, 1) := by decide +kernel
theorem dX7_reasonFor_9 : decode cX7_reasonFor 9 = .ok (.iload_n 1, 1) := by decide +kernel
theorem dX7_reasonFor_10 : decode cX7_reasonFor 10 = .ok (.ifCond .ne 5, 3) := by decide +kernel
theorem dX7_reasonFor_13 : decode cX7_reasonFor 13 = .ok (.iconst 2, 1) := by decide +kernel
theorem dX7_reasonFor_14 : decode cX7_reasonFor 14 = .ok (.ireturn, 1) := by decide +kernel
theorem dX7_reasonFor_15 : decode cX7_reasonFor 15 = .ok (.bipush 100, 2) := by decide +kernel
theorem dX7_reasonFor_17 : decode cX7_reasonFor 17 = .ok (.iload_n 1, 1) := by decide +kernel
theorem dX7_reasonFor_18 : decode cX7_reasonFor 18 = .ok (.imul, 1) := by decide +kernel
theorem dX7_reasonFor_19 : decode cX7_reasonFor 19 = .ok (.iload_n 2, 1) := by decide +kernel
theorem dX7_reasonFor_20 : decode cX7_reasonFor 20 = .ok (.if_icmp .ge 5, 3) := by decide +kernel
theorem dX7_reasonFor_23 : decode cX7_reasonFor 23 = .ok (.iconst 3, 1) := by decide +kernel
theorem dX7_reasonFor_24 : decode cX7_reasonFor 24 = .ok (.ireturn, 1) := by decide +kernel
theorem dX7_reasonFor_25 : decode cX7_reasonFor 25 = .ok (.iload_n 3, 1) := by decide +kernel
theorem dX7_reasonFor_26 : decode cX7_reasonFor 26 = .ok (.ifCond .eq 7, 3) := by decide +kernel
theorem dX7_reasonFor_29 : decode cX7_reasonFor 29 = .ok (.iconst 4, 1) := by decide +kernel
theorem dX7_reasonFor_30 : decode cX7_reasonFor 30 = .ok (.goto 4, 3) := by decide +kernel
theorem dX7_reasonFor_33 : decode cX7_reasonFor 33 = .ok (.iconst 0, 1) := by decide +kernel
theorem dX7_reasonFor_34 : decode cX7_reasonFor 34 = .ok (.ireturn, 1) := by decide +kernel
theorem dX7_tellSpeeds_0 : decode cX7_tellSpeeds 0 = .ok (.iconst (-1), 1) := by decide +kernel
theorem dX7_tellSpeeds_1 : decode cX7_tellSpeeds 1 = .ok (.istore_n 1, 1) := by decide +kernel
theorem dX7_tellSpeeds_2 : decode cX7_tellSpeeds 2 = .ok (.iconst 0, 1) := by decide +kernel
theorem dX7_tellSpeeds_3 : decode cX7_tellSpeeds 3 = .ok (.istore_n 2, 1) := by decide +kernel
theorem dX7_tellSpeeds_4 : decode cX7_tellSpeeds 4 = .ok (.iload_n 2, 1) := by decide +kernel
theorem dX7_tellSpeeds_5 : decode cX7_tellSpeeds 5 = .ok (.aload_n 0, 1) := by decide +kernel
theorem dX7_tellSpeeds_6 : decode cX7_tellSpeeds 6 = .ok (.getfield 44, 3) := by decide +kernel
theorem dX7_tellSpeeds_9 : decode cX7_tellSpeeds 9 = .ok (.if_icmp .ge 45, 3) := by decide +kernel
theorem dX7_tellSpeeds_12 : decode cX7_tellSpeeds 12 = .ok (.aload_n 0, 1) := by decide +kernel
theorem dX7_tellSpeeds_13 : decode cX7_tellSpeeds 13 = .ok (.getfield 15, 3) := by decide +kernel
theorem dX7_tellSpeeds_16 : decode cX7_tellSpeeds 16 = .ok (.iload_n 2, 1) := by decide +kernel
theorem dX7_tellSpeeds_17 : decode cX7_tellSpeeds 17 = .ok (.invokestatic 69, 3) := by decide +kernel
theorem dX7_tellSpeeds_20 : decode cX7_tellSpeeds 20 = .ok (.ifCond .ne 19, 3) := by decide +kernel
theorem dX7_tellSpeeds_23 : decode cX7_tellSpeeds 23 = .ok (.sipush 10000, 3) := by decide +kernel
theorem dX7_tellSpeeds_26 : decode cX7_tellSpeeds 26 = .ok (.aload_n 0, 1) := by decide +kernel
theorem dX7_tellSpeeds_27 : decode cX7_tellSpeeds 27 = .ok (.getfield 9, 3) := by decide +kernel
theorem dX7_tellSpeeds_30 : decode cX7_tellSpeeds 30 = .ok (.iload_n 2, 1) := by decide +kernel
theorem dX7_tellSpeeds_31 : decode cX7_tellSpeeds 31 = .ok (.invokestatic 69, 3) := by decide +kernel
theorem dX7_tellSpeeds_34 : decode cX7_tellSpeeds 34 = .ok (.imul, 1) := by decide +kernel
theorem dX7_tellSpeeds_35 : decode cX7_tellSpeeds 35 = .ok (.invokestatic 100, 3) := by decide +kernel
theorem dX7_tellSpeeds_38 : decode cX7_tellSpeeds 38 = .ok (.istore_n 1, 1) := by decide +kernel
theorem dX7_tellSpeeds_39 : decode cX7_tellSpeeds 39 = .ok (.aload_n 0, 1) := by decide +kernel
theorem dX7_tellSpeeds_40 : decode cX7_tellSpeeds 40 = .ok (.getfield 18, 3) := by decide +kernel
theorem dX7_tellSpeeds_43 : decode cX7_tellSpeeds 43 = .ok (.iload_n 2, 1) := by decide +kernel
theorem dX7_tellSpeeds_44 : decode cX7_tellSpeeds 44 = .ok (.iload_n 1, 1) := by decide +kernel
theorem dX7_tellSpeeds_45 : decode cX7_tellSpeeds 45 = .ok (.invokestatic 32, 3) := by decide +kernel
theorem dX7_tellSpeeds_48 : decode cX7_tellSpeeds 48 = .ok (.iinc 2 1, 3) := by decide +kernel
theorem dX7_tellSpeeds_51 : decode cX7_tellSpeeds 51 = .ok (.goto (-47), 3) := by decide +kernel
theorem dX7_tellSpeeds_54 : decode cX7_tellSpeeds 54 = .ok (.iconst (-1), 1) := by decide +kernel
theorem dX7_tellSpeeds_55 : decode cX7_tellSpeeds 55 = .ok (.istore_n 2, 1) := by decide +kernel
theorem dX7_tellSpeeds_56 : decode cX7_tellSpeeds 56 = .ok (.aload_n 0, 1) := by decide +kernel
theorem dX7_tellSpeeds_57 : decode cX7_tellSpeeds 57 = .ok (.getfield 44, 3) := by decide +kernel
theorem dX7_tellSpeeds_60 : decode cX7_tellSpeeds 60 = .ok (.iconst 1, 1) := by decide +kernel
theorem dX7_tellSpeeds_61 : decode cX7_tellSpeeds 61 = .ok (.isub, 1) := by decide +kernel
theorem dX7_tellSpeeds_62 : decode cX7_tellSpeeds 62 = .ok (.istore_n 3, 1) := by decide +kernel
theorem dX7_tellSpeeds_63 : decode cX7_tellSpeeds 63 = .ok (.iload_n 3, 1) := by decide +kernel
theorem dX7_tellSpeeds_64 : decode cX7_tellSpeeds 64 = .ok (.ifCond .lt 52, 3) := by decide +kernel
theorem dX7_tellSpeeds_67 : decode cX7_tellSpeeds 67 = .ok (.aload_n 0, 1) := by decide +kernel
theorem dX7_tellSpeeds_68 : decode cX7_tellSpeeds 68 = .ok (.getfield 15, 3) := by decide +kernel
theorem dX7_tellSpeeds_71 : decode cX7_tellSpeeds 71 = .ok (.iload_n 3, 1) := by decide +kernel
theorem dX7_tellSpeeds_72 : decode cX7_tellSpeeds 72 = .ok (.invokestatic 69, 3) := by decide +kernel
theorem dX7_tellSpeeds_75 : decode cX7_tellSpeeds 75 = .ok (.ifCond .ne 15, 3) := by decide +kernel
theorem dX7_tellSpeeds_78 : decode cX7_tellSpeeds 78 = .ok (.aload_n 0, 1) := by decide +kernel
theorem dX7_tellSpeeds_79 : decode cX7_tellSpeeds 79 = .ok (.getfield 18, 3) := by decide +kernel
theorem dX7_tellSpeeds_82 : decode cX7_tellSpeeds 82 = .ok (.iload_n 3, 1) := by decide +kernel
theorem dX7_tellSpeeds_83 : decode cX7_tellSpeeds 83 = .ok (.invokestatic 69, 3) := by decide +kernel
theorem dX7_tellSpeeds_86 : decode cX7_tellSpeeds 86 = .ok (.istore_n 2, 1) := by decide +kernel
theorem dX7_tellSpeeds_87 : decode cX7_tellSpeeds 87 = .ok (.goto 23, 3) := by decide +kernel
theorem dX7_tellSpeeds_90 : decode cX7_tellSpeeds 90 = .ok (.aload_n 0, 1) := by decide +kernel
theorem dX7_tellSpeeds_91 : decode cX7_tellSpeeds 91 = .ok (.getfield 18, 3) := by decide +kernel
theorem dX7_tellSpeeds_94 : decode cX7_tellSpeeds 94 = .ok (.iload_n 3, 1) := by decide +kernel
theorem dX7_tellSpeeds_95 : decode cX7_tellSpeeds 95 = .ok (.aload_n 0, 1) := by decide +kernel
theorem dX7_tellSpeeds_96 : decode cX7_tellSpeeds 96 = .ok (.getfield 18, 3) := by decide +kernel
theorem dX7_tellSpeeds_99 : decode cX7_tellSpeeds 99 = .ok (.iload_n 3, 1) := by decide +kernel
theorem dX7_tellSpeeds_100 : decode cX7_tellSpeeds 100 = .ok (.invokestatic 69, 3) := by decide +kernel
theorem dX7_tellSpeeds_103 : decode cX7_tellSpeeds 103 = .ok (.iload_n 2, 1) := by decide +kernel
theorem dX7_tellSpeeds_104 : decode cX7_tellSpeeds 104 = .ok (.invokestatic 104, 3) := by decide +kernel
theorem dX7_tellSpeeds_107 : decode cX7_tellSpeeds 107 = .ok (.invokestatic 32, 3) := by decide +kernel
theorem dX7_tellSpeeds_110 : decode cX7_tellSpeeds 110 = .ok (.iinc 3 (-1), 3) := by decide +kernel
theorem dX7_tellSpeeds_113 : decode cX7_tellSpeeds 113 = .ok (.goto (-50), 3) := by decide +kernel
theorem dX7_tellSpeeds_116 : decode cX7_tellSpeeds 116 = .ok (.return_, 1) := by decide +kernel
theorem dX7_mended_0 : decode cX7_mended 0 = .ok (.iload_n 0, 1) := by decide +kernel
theorem dX7_mended_1 : decode cX7_mended 1 = .ok (.iconst (-1), 1) := by decide +kernel
theorem dX7_mended_2 : decode cX7_mended 2 = .ok (.if_icmp .ne 5, 3) := by decide +kernel
theorem dX7_mended_5 : decode cX7_mended 5 = .ok (.iload_n 1, 1) := by decide +kernel
theorem dX7_mended_6 : decode cX7_mended 6 = .ok (.ireturn, 1) := by decide +kernel
theorem dX7_mended_7 : decode cX7_mended 7 = .ok (.iload_n 1, 1) := by decide +kernel
theorem dX7_mended_8 : decode cX7_mended 8 = .ok (.iconst (-1), 1) := by decide +kernel
theorem dX7_mended_9 : decode cX7_mended 9 = .ok (.if_icmp .ne 7, 3) := by decide +kernel
theorem dX7_mended_12 : decode cX7_mended 12 = .ok (.iload_n 0, 1) := by decide +kernel
theorem dX7_mended_13 : decode cX7_mended 13 = .ok (.goto 8, 3) := by decide +kernel
theorem dX7_mended_16 : decode cX7_mended 16 = .ok (.iload_n 0, 1) := by decide +kernel
theorem dX7_mended_17 : decode cX7_mended 17 = .ok (.iload_n 1, 1) := by decide +kernel
theorem dX7_mended_18 : decode cX7_mended 18 = .ok (.iadd, 1) := by decide +kernel
theorem dX7_mended_19 : decode cX7_mended 19 = .ok (.iconst 2, 1) := by decide +kernel
theorem dX7_mended_20 : decode cX7_mended 20 = .ok (.idiv, 1) := by decide +kernel
theorem dX7_mended_21 : decode cX7_mended 21 = .ok (.ireturn, 1) := by decide +kernel
theorem dX7_flowOfRings_0 : decode cX7_flowOfRings 0 = .ok (.aload_n 0, 1) := by decide +kernel
theorem dX7_flowOfRings_1 : decode cX7_flowOfRings 1 = .ok (.getfield 90, 3) := by decide +kernel
theorem dX7_flowOfRings_4 : decode cX7_flowOfRings 4 = .ok (.ifCond .ne 5, 3) := by decide +kernel
theorem dX7_flowOfRings_7 : decode cX7_flowOfRings 7 = .ok (.iconst (-1), 1) := by decide +kernel
theorem dX7_flowOfRings_8 : decode cX7_flowOfRings 8 = .ok (.ireturn, 1) := by decide +kernel
theorem dX7_flowOfRings_9 : decode cX7_flowOfRings 9 = .ok (.iconst 0, 1) := by decide +kernel
theorem dX7_flowOfRings_10 : decode cX7_flowOfRings 10 = .ok (.istore_n 3, 1) := by decide +kernel
theorem dX7_flowOfRings_11 : decode cX7_flowOfRings 11 = .ok (.iload_n 1, 1) := by decide +kernel
theorem dX7_flowOfRings_12 : decode cX7_flowOfRings 12 = .ok (.istore 4, 2) := by decide +kernel
theorem dX7_flowOfRings_14 : decode cX7_flowOfRings 14 = .ok (.iload 4, 2) := by decide +kernel
theorem dX7_flowOfRings_16 : decode cX7_flowOfRings 16 = .ok (.iload_n 2, 1) := by decide +kernel
theorem dX7_flowOfRings_17 : decode cX7_flowOfRings 17 = .ok (.if_icmp .ge 32, 3) := by decide +kernel
theorem dX7_flowOfRings_20 : decode cX7_flowOfRings 20 = .ok (.iload_n 3, 1) := by decide +kernel
theorem dX7_flowOfRings_21 : decode cX7_flowOfRings 21 = .ok (.aload_n 0, 1) := by decide +kernel
theorem dX7_flowOfRings_22 : decode cX7_flowOfRings 22 = .ok (.getfield 18, 3) := by decide +kernel
theorem dX7_flowOfRings_25 : decode cX7_flowOfRings 25 = .ok (.iload 4, 2) := by decide +kernel
theorem dX7_flowOfRings_27 : decode cX7_flowOfRings 27 = .ok (.invokestatic 69, 3) := by decide +kernel
theorem dX7_flowOfRings_30 : decode cX7_flowOfRings 30 = .ok (.aload_n 0, 1) := by decide +kernel
theorem dX7_flowOfRings_31 : decode cX7_flowOfRings 31 = .ok (.getfield 48, 3) := by decide +kernel
theorem dX7_flowOfRings_34 : decode cX7_flowOfRings 34 = .ok (.aload_n 0, 1) := by decide +kernel
theorem dX7_flowOfRings_35 : decode cX7_flowOfRings 35 = .ok (.getfield 44, 3) := by decide +kernel
theorem dX7_flowOfRings_38 : decode cX7_flowOfRings 38 = .ok (.invokestatic 107, 3) := by decide +kernel
theorem dX7_flowOfRings_41 : decode cX7_flowOfRings 41 = .ok (.iadd, 1) := by decide +kernel
theorem dX7_flowOfRings_42 : decode cX7_flowOfRings 42 = .ok (.istore_n 3, 1) := by decide +kernel
theorem dX7_flowOfRings_43 : decode cX7_flowOfRings 43 = .ok (.iinc 4 1, 3) := by decide +kernel
theorem dX7_flowOfRings_46 : decode cX7_flowOfRings 46 = .ok (.goto (-32), 3) := by decide +kernel
theorem dX7_flowOfRings_49 : decode cX7_flowOfRings 49 = .ok (.iload_n 3, 1) := by decide +kernel
theorem dX7_flowOfRings_50 : decode cX7_flowOfRings 50 = .ok (.ireturn, 1) := by decide +kernel
theorem dX7_countOfReason_0 : decode cX7_countOfReason 0 = .ok (.iconst 0, 1) := by decide +kernel
theorem dX7_countOfReason_1 : decode cX7_countOfReason 1 = .ok (.istore_n 2, 1) := by decide +kernel
theorem dX7_countOfReason_2 : decode cX7_countOfReason 2 = .ok (.iconst 0, 1) := by decide +kernel
theorem dX7_countOfReason_3 : decode cX7_countOfReason 3 = .ok (.istore_n 3, 1) := by decide +kernel
theorem dX7_countOfReason_4 : decode cX7_countOfReason 4 = .ok (.iload_n 3, 1) := by decide +kernel
theorem dX7_countOfReason_5 : decode cX7_countOfReason 5 = .ok (.aload_n 0, 1) := by decide +kernel
theorem dX7_countOfReason_6 : decode cX7_countOfReason 6 = .ok (.getfield 44, 3) := by decide +kernel
theorem dX7_countOfReason_9 : decode cX7_countOfReason 9 = .ok (.if_icmp .ge 29, 3) := by decide +kernel
theorem dX7_countOfReason_12 : decode cX7_countOfReason 12 = .ok (.iload_n 2, 1) := by decide +kernel
theorem dX7_countOfReason_13 : decode cX7_countOfReason 13 = .ok (.aload_n 0, 1) := by decide +kernel
theorem dX7_countOfReason_14 : decode cX7_countOfReason 14 = .ok (.getfield 15, 3) := by decide +kernel
theorem dX7_countOfReason_17 : decode cX7_countOfReason 17 = .ok (.iload_n 3, 1) := by decide +kernel
theorem dX7_countOfReason_18 : decode cX7_countOfReason 18 = .ok (.invokestatic 69, 3) := by decide +kernel
theorem dX7_countOfReason_21 : decode cX7_countOfReason 21 = .ok (.iload_n 1, 1) := by decide +kernel
theorem dX7_countOfReason_22 : decode cX7_countOfReason 22 = .ok (.if_icmp .ne 7, 3) := by decide +kernel
theorem dX7_countOfReason_25 : decode cX7_countOfReason 25 = .ok (.iconst 1, 1) := by decide +kernel
theorem dX7_countOfReason_26 : decode cX7_countOfReason 26 = .ok (.goto 4, 3) := by decide +kernel
theorem dX7_countOfReason_29 : decode cX7_countOfReason 29 = .ok (.iconst 0, 1) := by decide +kernel
theorem dX7_countOfReason_30 : decode cX7_countOfReason 30 = .ok (.iadd, 1) := by decide +kernel
theorem dX7_countOfReason_31 : decode cX7_countOfReason 31 = .ok (.istore_n 2, 1) := by decide +kernel
theorem dX7_countOfReason_32 : decode cX7_countOfReason 32 = .ok (.iinc 3 1, 3) := by decide +kernel
theorem dX7_countOfReason_35 : decode cX7_countOfReason 35 = .ok (.goto (-31), 3) := by decide +kernel
theorem dX7_countOfReason_38 : decode cX7_countOfReason 38 = .ok (.iload_n 2, 1) := by decide +kernel
theorem dX7_countOfReason_39 : decode cX7_countOfReason 39 = .ok (.ireturn, 1) := by decide +kernel
theorem dX7_leastByGreatest_0 : decode cX7_leastByGreatest 0 = .ok (.aload_n 0, 1) := by decide +kernel
theorem dX7_leastByGreatest_1 : decode cX7_leastByGreatest 1 = .ok (.getfield 90, 3) := by decide +kernel
theorem dX7_leastByGreatest_4 : decode cX7_leastByGreatest 4 = .ok (.ifCond .ne 5, 3) := by decide +kernel
theorem dX7_leastByGreatest_7 : decode cX7_leastByGreatest 7 = .ok (.dconst 0, 1) := by decide +kernel
theorem dX7_leastByGreatest_8 : decode cX7_leastByGreatest 8 = .ok (.dreturn, 1) := by decide +kernel
theorem dX7_leastByGreatest_9 : decode cX7_leastByGreatest 9 = .ok (.aload_n 0, 1) := by decide +kernel
theorem dX7_leastByGreatest_10 : decode cX7_leastByGreatest 10 = .ok (.getfield 18, 3) := by decide +kernel
theorem dX7_leastByGreatest_13 : decode cX7_leastByGreatest 13 = .ok (.iconst 0, 1) := by decide +kernel
theorem dX7_leastByGreatest_14 : decode cX7_leastByGreatest 14 = .ok (.invokestatic 69, 3) := by decide +kernel
theorem dX7_leastByGreatest_17 : decode cX7_leastByGreatest 17 = .ok (.istore_n 1, 1) := by decide +kernel
theorem dX7_leastByGreatest_18 : decode cX7_leastByGreatest 18 = .ok (.iload_n 1, 1) := by decide +kernel
theorem dX7_leastByGreatest_19 : decode cX7_leastByGreatest 19 = .ok (.istore_n 2, 1) := by decide +kernel
theorem dX7_leastByGreatest_20 : decode cX7_leastByGreatest 20 = .ok (.iconst 1, 1) := by decide +kernel
theorem dX7_leastByGreatest_21 : decode cX7_leastByGreatest 21 = .ok (.istore_n 3, 1) := by decide +kernel
theorem dX7_leastByGreatest_22 : decode cX7_leastByGreatest 22 = .ok (.iload_n 3, 1) := by decide +kernel
theorem dX7_leastByGreatest_23 : decode cX7_leastByGreatest 23 = .ok (.aload_n 0, 1) := by decide +kernel
theorem dX7_leastByGreatest_24 : decode cX7_leastByGreatest 24 = .ok (.getfield 44, 3) := by decide +kernel
theorem dX7_leastByGreatest_27 : decode cX7_leastByGreatest 27 = .ok (.if_icmp .ge 35, 3) := by decide +kernel
theorem dX7_leastByGreatest_30 : decode cX7_leastByGreatest 30 = .ok (.iload_n 1, 1) := by decide +kernel
theorem dX7_leastByGreatest_31 : decode cX7_leastByGreatest 31 = .ok (.aload_n 0, 1) := by decide +kernel
theorem dX7_leastByGreatest_32 : decode cX7_leastByGreatest 32 = .ok (.getfield 18, 3) := by decide +kernel
theorem dX7_leastByGreatest_35 : decode cX7_leastByGreatest 35 = .ok (.iload_n 3, 1) := by decide +kernel
theorem dX7_leastByGreatest_36 : decode cX7_leastByGreatest 36 = .ok (.invokestatic 69, 3) := by decide +kernel
theorem dX7_leastByGreatest_39 : decode cX7_leastByGreatest 39 = .ok (.invokestatic 113, 3) := by decide +kernel
theorem dX7_leastByGreatest_42 : decode cX7_leastByGreatest 42 = .ok (.istore_n 1, 1) := by decide +kernel
theorem dX7_leastByGreatest_43 : decode cX7_leastByGreatest 43 = .ok (.iload_n 2, 1) := by decide +kernel
theorem dX7_leastByGreatest_44 : decode cX7_leastByGreatest 44 = .ok (.aload_n 0, 1) := by decide +kernel
theorem dX7_leastByGreatest_45 : decode cX7_leastByGreatest 45 = .ok (.getfield 18, 3) := by decide +kernel
theorem dX7_leastByGreatest_48 : decode cX7_leastByGreatest 48 = .ok (.iload_n 3, 1) := by decide +kernel
theorem dX7_leastByGreatest_49 : decode cX7_leastByGreatest 49 = .ok (.invokestatic 69, 3) := by decide +kernel
theorem dX7_leastByGreatest_52 : decode cX7_leastByGreatest 52 = .ok (.invokestatic 82, 3) := by decide +kernel
theorem dX7_leastByGreatest_55 : decode cX7_leastByGreatest 55 = .ok (.istore_n 2, 1) := by decide +kernel
theorem dX7_leastByGreatest_56 : decode cX7_leastByGreatest 56 = .ok (.iinc 3 1, 3) := by decide +kernel
theorem dX7_leastByGreatest_59 : decode cX7_leastByGreatest 59 = .ok (.goto (-37), 3) := by decide +kernel
theorem dX7_leastByGreatest_62 : decode cX7_leastByGreatest 62 = .ok (.iload_n 2, 1) := by decide +kernel
theorem dX7_leastByGreatest_63 : decode cX7_leastByGreatest 63 = .ok (.ifCond .le 11, 3) := by decide +kernel
theorem dX7_leastByGreatest_66 : decode cX7_leastByGreatest 66 = .ok (.iload_n 1, 1) := by decide +kernel
theorem dX7_leastByGreatest_67 : decode cX7_leastByGreatest 67 = .ok (.i2d, 1) := by decide +kernel
theorem dX7_leastByGreatest_68 : decode cX7_leastByGreatest 68 = .ok (.iload_n 2, 1) := by decide +kernel
theorem dX7_leastByGreatest_69 : decode cX7_leastByGreatest 69 = .ok (.i2d, 1) := by decide +kernel
theorem dX7_leastByGreatest_70 : decode cX7_leastByGreatest 70 = .ok (.ddiv, 1) := by decide +kernel
theorem dX7_leastByGreatest_71 : decode cX7_leastByGreatest 71 = .ok (.goto 4, 3) := by decide +kernel
theorem dX7_leastByGreatest_74 : decode cX7_leastByGreatest 74 = .ok (.dconst 0, 1) := by decide +kernel
theorem dX7_leastByGreatest_75 : decode cX7_leastByGreatest 75 = .ok (.dreturn, 1) := by decide +kernel
theorem dX8_distance_0 : decode cX8_distance 0 = .ok (.iload_n 0, 1) := by decide +kernel
theorem dX8_distance_1 : decode cX8_distance 1 = .ok (.iload_n 0, 1) := by decide +kernel
theorem dX8_distance_2 : decode cX8_distance 2 = .ok (.imul, 1) := by decide +kernel
theorem dX8_distance_3 : decode cX8_distance 3 = .ok (.iconst 2, 1) := by decide +kernel
theorem dX8_distance_4 : decode cX8_distance 4 = .ok (.iload_n 1, 1) := by decide +kernel
theorem dX8_distance_5 : decode cX8_distance 5 = .ok (.imul, 1) := by decide +kernel
theorem dX8_distance_6 : decode cX8_distance 6 = .ok (.iconst 1, 1) := by decide +kernel
theorem dX8_distance_7 : decode cX8_distance 7 = .ok (.iadd, 1) := by decide +kernel
theorem dX8_distance_8 : decode cX8_distance 8 = .ok (.imul, 1) := by decide +kernel
theorem dX8_distance_9 : decode cX8_distance 9 = .ok (.iconst 2, 1) := by decide +kernel
theorem dX8_distance_10 : decode cX8_distance 10 = .ok (.iload_n 2, 1) := by decide +kernel
theorem dX8_distance_11 : decode cX8_distance 11 = .ok (.imul, 1) := by decide +kernel
theorem dX8_distance_12 : decode cX8_distance 12 = .ok (.invokestatic 9, 3) := by decide +kernel
theorem dX8_distance_15 : decode cX8_distance 15 = .ok (.invokestatic 15, 3) := by decide +kernel
theorem dX8_distance_18 : decode cX8_distance 18 = .ok (.ireturn, 1) := by decide +kernel
theorem dX8_speedAt_0 : decode cX8_speedAt 0 = .ok (.aload_n 0, 1) := by decide +kernel
theorem dX8_speedAt_1 : decode cX8_speedAt 1 = .ok (.getfield 19, 3) := by decide +kernel
theorem dX8_speedAt_4 : decode cX8_speedAt 4 = .ok (.iload_n 1, 1) := by decide +kernel
theorem dX8_speedAt_5 : decode cX8_speedAt 5 = .ok (.iload_n 2, 1) := by decide +kernel
theorem dX8_speedAt_6 : decode cX8_speedAt 6 = .ok (.invokestatic 25, 3) := by decide +kernel
theorem dX8_speedAt_9 : decode cX8_speedAt 9 = .ok (.istore_n 3, 1) := by decide +kernel
theorem dX8_speedAt_10 : decode cX8_speedAt 10 = .ok (.aload_n 0, 1) := by decide +kernel
theorem dX8_speedAt_11 : decode cX8_speedAt 11 = .ok (.getfield 31, 3) := by decide +kernel
theorem dX8_speedAt_14 : decode cX8_speedAt 14 = .ok (.iconst 0, 1) := by decide +kernel
theorem dX8_speedAt_15 : decode cX8_speedAt 15 = .ok (.invokestatic 35, 3) := by decide +kernel
theorem dX8_speedAt_18 : decode cX8_speedAt 18 = .ok (.istore 4, 2) := by decide +kernel
theorem dX8_speedAt_20 : decode cX8_speedAt 20 = .ok (.iload 4, 2) := by decide +kernel
theorem dX8_speedAt_22 : decode cX8_speedAt 22 = .ok (.aload_n 0, 1) := by decide +kernel
theorem dX8_speedAt_23 : decode cX8_speedAt 23 = .ok (.getfield 31, 3) := by decide +kernel
theorem dX8_speedAt_26 : decode cX8_speedAt 26 = .ok (.iconst 1, 1) := by decide +kernel
theorem dX8_speedAt_27 : decode cX8_speedAt 27 = .ok (.invokestatic 35, 3) := by decide +kernel
theorem dX8_speedAt_30 : decode cX8_speedAt 30 = .ok (.imul, 1) := by decide +kernel
theorem dX8_speedAt_31 : decode cX8_speedAt 31 = .ok (.iload_n 3, 1) := by decide +kernel
theorem dX8_speedAt_32 : decode cX8_speedAt 32 = .ok (.imul, 1) := by decide +kernel
theorem dX8_speedAt_33 : decode cX8_speedAt 33 = .ok (.istore 5, 2) := by decide +kernel
theorem dX8_speedAt_35 : decode cX8_speedAt 35 = .ok (.aload_n 0, 1) := by decide +kernel
theorem dX8_speedAt_36 : decode cX8_speedAt 36 = .ok (.getfield 31, 3) := by decide +kernel
theorem dX8_speedAt_39 : decode cX8_speedAt 39 = .ok (.iconst 2, 1) := by decide +kernel
theorem dX8_speedAt_40 : decode cX8_speedAt 40 = .ok (.invokestatic 35, 3) := by decide +kernel
theorem dX8_speedAt_43 : decode cX8_speedAt 43 = .ok (.iload_n 3, 1) := by decide +kernel
theorem dX8_speedAt_44 : decode cX8_speedAt 44 = .ok (.imul, 1) := by decide +kernel
theorem dX8_speedAt_45 : decode cX8_speedAt 45 = .ok (.istore 6, 2) := by decide +kernel
theorem dX8_speedAt_47 : decode cX8_speedAt 47 = .ok (.iload 4, 2) := by decide +kernel
theorem dX8_speedAt_49 : decode cX8_speedAt 49 = .ok (.iload 5, 2) := by decide +kernel
theorem dX8_speedAt_51 : decode cX8_speedAt 51 = .ok (.bipush 100, 2) := by decide +kernel
theorem dX8_speedAt_53 : decode cX8_speedAt 53 = .ok (.aload_n 0, 1) := by decide +kernel
theorem dX8_speedAt_54 : decode cX8_speedAt 54 = .ok (.getfield 19, 3) := by decide +kernel
theorem dX8_speedAt_57 : decode cX8_speedAt 57 = .ok (.imul, 1) := by decide +kernel
theorem dX8_speedAt_58 : decode cX8_speedAt 58 = .ok (.invokestatic 9, 3) := by decide +kernel
theorem dX8_speedAt_61 : decode cX8_speedAt 61 = .ok (.isub, 1) := by decide +kernel
theorem dX8_speedAt_62 : decode cX8_speedAt 62 = .ok (.iload 6, 2) := by decide +kernel
theorem dX8_speedAt_64 : decode cX8_speedAt 64 = .ok (.aload_n 0, 1) := by decide +kernel
theorem dX8_speedAt_65 : decode cX8_speedAt 65 = .ok (.getfield 19, 3) := by decide +kernel
theorem dX8_speedAt_68 : decode cX8_speedAt 68 = .ok (.invokestatic 9, 3) := by decide +kernel
theorem dX8_speedAt_71 : decode cX8_speedAt 71 = .ok (.iadd, 1) := by decide +kernel
theorem dX8_speedAt_72 : decode cX8_speedAt 72 = .ok (.ireturn, 1) := by decide +kernel
theorem dX8_headAt_0 : decode cX8_headAt 0 = .ok (.aload_n 0, 1) := by decide +kernel
theorem dX8_headAt_1 : decode cX8_headAt 1 = .ok (.iload_n 1, 1) := by decide +kernel
theorem dX8_headAt_2 : decode cX8_headAt 2 = .ok (.aload_n 0, 1) := by decide +kernel
theorem dX8_headAt_3 : decode cX8_headAt 3 = .ok (.getfield 41, 3) := by decide +kernel
theorem dX8_headAt_6 : decode cX8_headAt 6 = .ok (.invokestatic 44, 3) := by decide +kernel
theorem dX8_headAt_9 : decode cX8_headAt 9 = .ok (.istore_n 2, 1) := by decide +kernel
theorem dX8_headAt_10 : decode cX8_headAt 10 = .ok (.iload_n 2, 1) := by decide +kernel
theorem dX8_headAt_11 : decode cX8_headAt 11 = .ok (.iload_n 2, 1) := by decide +kernel
theorem dX8_headAt_12 : decode cX8_headAt 12 = .ok (.imul, 1) := by decide +kernel
theorem dX8_headAt_13 : decode cX8_headAt 13 = .ok (.sipush 10000, 3) := by decide +kernel
theorem dX8_headAt_16 : decode cX8_headAt 16 = .ok (.idiv, 1) := by decide +kernel
theorem dX8_headAt_17 : decode cX8_headAt 17 = .ok (.ireturn, 1) := by decide +kernel
theorem dX8_feltAt_0 : decode cX8_feltAt 0 = .ok (.iload_n 2, 1) := by decide +kernel
theorem dX8_feltAt_1 : decode cX8_feltAt 1 = .ok (.aload_n 0, 1) := by decide +kernel
theorem dX8_feltAt_2 : decode cX8_feltAt 2 = .ok (.getfield 48, 3) := by decide +kernel
theorem dX8_feltAt_5 : decode cX8_feltAt 5 = .ok (.iload_n 1, 1) := by decide +kernel
theorem dX8_feltAt_6 : decode cX8_feltAt 6 = .ok (.invokestatic 35, 3) := by decide +kernel
theorem dX8_feltAt_9 : decode cX8_feltAt 9 = .ok (.imul, 1) := by decide +kernel
theorem dX8_feltAt_10 : decode cX8_feltAt 10 = .ok (.bipush 100, 2) := by decide +kernel
theorem dX8_feltAt_12 : decode cX8_feltAt 12 = .ok (.idiv, 1) := by decide +kernel
theorem dX8_feltAt_13 : decode cX8_feltAt 13 = .ok (.istore_n 3, 1) := by decide +kernel
theorem dX8_feltAt_14 : decode cX8_feltAt 14 = .ok (.iload_n 3, 1) := by decide +kernel
theorem dX8_feltAt_15 : decode cX8_feltAt 15 = .ok (.iload_n 3, 1) := by decide +kernel
theorem dX8_feltAt_16 : decode cX8_feltAt 16 = .ok (.aload_n 0, 1) := by decide +kernel
theorem dX8_feltAt_17 : decode cX8_feltAt 17 = .ok (.getfield 51, 3) := by decide +kernel
theorem dX8_feltAt_20 : decode cX8_feltAt 20 = .ok (.iload_n 1, 1) := by decide +kernel
theorem dX8_feltAt_21 : decode cX8_feltAt 21 = .ok (.invokestatic 35, 3) := by decide +kernel
theorem dX8_feltAt_24 : decode cX8_feltAt 24 = .ok (.imul, 1) := by decide +kernel
theorem dX8_feltAt_25 : decode cX8_feltAt 25 = .ok (.bipush 100, 2) := by decide +kernel
theorem dX8_feltAt_27 : decode cX8_feltAt 27 = .ok (.idiv, 1) := by decide +kernel
theorem dX8_feltAt_28 : decode cX8_feltAt 28 = .ok (.isub, 1) := by decide +kernel
theorem dX8_feltAt_29 : decode cX8_feltAt 29 = .ok (.ireturn, 1) := by decide +kernel
theorem dX8_whole_0 : decode cX8_whole 0 = .ok (.iconst 0, 1) := by decide +kernel
theorem dX8_whole_1 : decode cX8_whole 1 = .ok (.istore_n 2, 1) := by decide +kernel
theorem dX8_whole_2 : decode cX8_whole 2 = .ok (.iconst 0, 1) := by decide +kernel
theorem dX8_whole_3 : decode cX8_whole 3 = .ok (.istore_n 3, 1) := by decide +kernel
theorem dX8_whole_4 : decode cX8_whole 4 = .ok (.iload_n 3, 1) := by decide +kernel
theorem dX8_whole_5 : decode cX8_whole 5 = .ok (.iload_n 1, 1) := by decide +kernel
theorem dX8_whole_6 : decode cX8_whole 6 = .ok (.if_icmp .ge 26, 3) := by decide +kernel
theorem dX8_whole_9 : decode cX8_whole 9 = .ok (.iload_n 2, 1) := by decide +kernel
theorem dX8_whole_10 : decode cX8_whole 10 = .ok (.aload_n 0, 1) := by decide +kernel
theorem dX8_whole_11 : decode cX8_whole 11 = .ok (.iload_n 3, 1) := by decide +kernel
theorem dX8_whole_12 : decode cX8_whole 12 = .ok (.iload_n 1, 1) := by decide +kernel
theorem dX8_whole_13 : decode cX8_whole 13 = .ok (.invokestatic 44, 3) := by decide +kernel
theorem dX8_whole_16 : decode cX8_whole 16 = .ok (.aload_n 0, 1) := by decide +kernel
theorem dX8_whole_17 : decode cX8_whole 17 = .ok (.getfield 19, 3) := by decide +kernel
theorem dX8_whole_20 : decode cX8_whole 20 = .ok (.iload_n 1, 1) := by decide +kernel
theorem dX8_whole_21 : decode cX8_whole 21 = .ok (.invokestatic 54, 3) := by decide +kernel
theorem dX8_whole_24 : decode cX8_whole 24 = .ok (.iadd, 1) := by decide +kernel
theorem dX8_whole_25 : decode cX8_whole 25 = .ok (.istore_n 2, 1) := by decide +kernel
theorem dX8_whole_26 : decode cX8_whole 26 = .ok (.iinc 3 1, 3) := by decide +kernel
theorem dX8_whole_29 : decode cX8_whole 29 = .ok (.goto (-25), 3) := by decide +kernel
theorem dX8_whole_32 : decode cX8_whole 32 = .ok (.iload_n 2, 1) := by decide +kernel
theorem dX8_whole_33 : decode cX8_whole 33 = .ok (.ireturn, 1) := by decide +kernel
theorem dX8_flowOfRing_0 : decode cX8_flowOfRing 0 = .ok (.iload_n 0, 1) := by decide +kernel
theorem dX8_flowOfRing_1 : decode cX8_flowOfRing 1 = .ok (.iload_n 1, 1) := by decide +kernel
theorem dX8_flowOfRing_2 : decode cX8_flowOfRing 2 = .ok (.iload_n 1, 1) := by decide +kernel
theorem dX8_flowOfRing_3 : decode cX8_flowOfRing 3 = .ok (.imul, 1) := by decide +kernel
theorem dX8_flowOfRing_4 : decode cX8_flowOfRing 4 = .ok (.bipush 100, 2) := by decide +kernel
theorem dX8_flowOfRing_6 : decode cX8_flowOfRing 6 = .ok (.idiv, 1) := by decide +kernel
theorem dX8_flowOfRing_7 : decode cX8_flowOfRing 7 = .ok (.imul, 1) := by decide +kernel
theorem dX8_flowOfRing_8 : decode cX8_flowOfRing 8 = .ok (.iload_n 2, 1) := by decide +kernel
theorem dX8_flowOfRing_9 : decode cX8_flowOfRing 9 = .ok (.invokestatic 9, 3) := by decide +kernel
theorem dX8_flowOfRing_12 : decode cX8_flowOfRing 12 = .ok (.ireturn, 1) := by decide +kernel
theorem dX9_init_0 : decode cX9_init 0 = .ok (.aload_n 0, 1) := by decide +kernel
theorem dX9_init_1 : decode cX9_init 1 = .ok (.invokespecial 1, 3) := by decide +kernel
theorem dX9_init_4 : decode cX9_init 4 = .ok (.aload_n 0, 1) := by decide +kernel
theorem dX9_init_5 : decode cX9_init 5 = .ok (.new 7, 3) := by decide +kernel
theorem dX9_init_8 : decode cX9_init 8 = .ok (.dup, 1) := by decide +kernel
theorem dX9_init_9 : decode cX9_init 9 = .ok (.invokespecial 9, 3) := by decide +kernel
theorem dX9_init_12 : decode cX9_init 12 = .ok (.putfield 10, 3) := by decide +kernel
theorem dX9_init_15 : decode cX9_init 15 = .ok (.aload_n 0, 1) := by decide +kernel
theorem dX9_init_16 : decode cX9_init 16 = .ok (.new 16, 3) := by decide +kernel
theorem dX9_init_19 : decode cX9_init 19 = .ok (.dup, 1) := by decide +kernel
theorem dX9_init_20 : decode cX9_init 20 = .ok (.invokespecial 18, 3) := by decide +kernel
theorem dX9_init_23 : decode cX9_init 23 = .ok (.putfield 19, 3) := by decide +kernel
theorem dX9_init_26 : decode cX9_init 26 = .ok (.aload_n 0, 1) := by decide +kernel
theorem dX9_init_27 : decode cX9_init 27 = .ok (.new 23, 3) := by decide +kernel
theorem dX9_init_30 : decode cX9_init 30 = .ok (.dup, 1) := by decide +kernel
theorem dX9_init_31 : decode cX9_init 31 = .ok (.invokespecial 25, 3) := by decide +kernel
theorem dX9_init_34 : decode cX9_init 34 = .ok (.putfield 26, 3) := by decide +kernel
theorem dX9_init_37 : decode cX9_init 37 = .ok (.aload_n 0, 1) := by decide +kernel
theorem dX9_init_38 : decode cX9_init 38 = .ok (.new 23, 3) := by decide +kernel
theorem dX9_init_41 : decode cX9_init 41 = .ok (.dup, 1) := by decide +kernel
theorem dX9_init_42 : decode cX9_init 42 = .ok (.invokespecial 25, 3) := by decide +kernel
theorem dX9_init_45 : decode cX9_init 45 = .ok (.putfield 30, 3) := by decide +kernel
theorem dX9_init_48 : decode cX9_init 48 = .ok (.aload_n 0, 1) := by decide +kernel
theorem dX9_init_49 : decode cX9_init 49 = .ok (.new 33, 3) := by decide +kernel
theorem dX9_init_52 : decode cX9_init 52 = .ok (.dup, 1) := by decide +kernel
theorem dX9_init_53 : decode cX9_init 53 = .ok (.invokespecial 35, 3) := by decide +kernel
theorem dX9_init_56 : decode cX9_init 56 = .ok (.putfield 36, 3) := by decide +kernel
theorem dX9_init_59 : decode cX9_init 59 = .ok (.aload_n 0, 1) := by decide +kernel
theorem dX9_init_60 : decode cX9_init 60 = .ok (.new 40, 3) := by decide +kernel
theorem dX9_init_63 : decode cX9_init 63 = .ok (.dup, 1) := by decide +kernel
theorem dX9_init_64 : decode cX9_init 64 = .ok (.invokespecial 42, 3) := by decide +kernel
theorem dX9_init_67 : decode cX9_init 67 = .ok (.putfield 43, 3) := by decide +kernel
theorem dX9_init_70 : decode cX9_init 70 = .ok (.aload_n 0, 1) := by decide +kernel
theorem dX9_init_71 : decode cX9_init 71 = .ok (.new 40, 3) := by decide +kernel
theorem dX9_init_74 : decode cX9_init 74 = .ok (.dup, 1) := by decide +kernel
theorem dX9_init_75 : decode cX9_init 75 = .ok (.invokespecial 42, 3) := by decide +kernel
theorem dX9_init_78 : decode cX9_init 78 = .ok (.putfield 47, 3) := by decide +kernel
theorem dX9_init_81 : decode cX9_init 81 = .ok (.aload_n 0, 1) := by decide +kernel
theorem dX9_init_82 : decode cX9_init 82 = .ok (.bipush 8, 2) := by decide +kernel
theorem dX9_init_84 : decode cX9_init 84 = .ok (.newarray .int, 2) := by decide +kernel
theorem dX9_init_86 : decode cX9_init 86 = .ok (.putfield 50, 3) := by decide +kernel
theorem dX9_init_89 : decode cX9_init 89 = .ok (.return_, 1) := by decide +kernel
theorem dX9_rake_0 : decode cX9_rake 0 = .ok (.iload_n 1, 1) := by decide +kernel
theorem dX9_rake_1 : decode cX9_rake 1 = .ok (.invokestatic 54, 3) := by decide +kernel
theorem dX9_rake_4 : decode cX9_rake 4 = .ok (.ifCond .eq 13, 3) := by decide +kernel
theorem dX9_rake_7 : decode cX9_rake 7 = .ok (.new 58, 3) := by decide +kernel
theorem dX9_rake_10 : decode cX9_rake 10 = .ok (.dup, 1) := by decide +kernel
theorem dX9_rake_11 : decode cX9_rake 11 = .ok (.ldc 60, 2) := by decide +kernel
theorem dX9_rake_13 : decode cX9_rake 13 = .ok (.invokespecial 62, 3) := by decide +kernel
theorem dX9_rake_16 : decode cX9_rake 16 = .ok (.athrow, 1) := by decide +kernel
theorem dX9_rake_17 : decode cX9_rake 17 = .ok (.aload_n 0, 1) := by decide +kernel
theorem dX9_rake_18 : decode cX9_rake 18 = .ok (.getfield 19, 3) := by decide +kernel
theorem dX9_rake_21 : decode cX9_rake 21 = .ok (.aload_n 0, 1) := by decide +kernel
theorem dX9_rake_22 : decode cX9_rake 22 = .ok (.getfield 10, 3) := by decide +kernel
theorem dX9_rake_25 : decode cX9_rake 25 = .ok (.invokevirtual 65, 3) := by decide +kernel
theorem dX9_rake_28 : decode cX9_rake 28 = .ok (.aload_n 0, 1) := by decide +kernel
theorem dX9_rake_29 : decode cX9_rake 29 = .ok (.getfield 10, 3) := by decide +kernel
theorem dX9_rake_32 : decode cX9_rake 32 = .ok (.getfield 69, 3) := by decide +kernel
theorem dX9_rake_35 : decode cX9_rake 35 = .ok (.istore_n 2, 1) := by decide +kernel
theorem dX9_rake_36 : decode cX9_rake 36 = .ok (.aload_n 0, 1) := by decide +kernel
theorem dX9_rake_37 : decode cX9_rake 37 = .ok (.getfield 10, 3) := by decide +kernel
theorem dX9_rake_40 : decode cX9_rake 40 = .ok (.iload_n 1, 1) := by decide +kernel
theorem dX9_rake_41 : decode cX9_rake 41 = .ok (.invokevirtual 73, 3) := by decide +kernel
theorem dX9_rake_44 : decode cX9_rake 44 = .ok (.iload_n 2, 1) := by decide +kernel
theorem dX9_rake_45 : decode cX9_rake 45 = .ok (.ireturn, 1) := by decide +kernel
theorem dX9_radius_0 : decode cX9_radius 0 = .ok (.iload_n 1, 1) := by decide +kernel
theorem dX9_radius_1 : decode cX9_radius 1 = .ok (.bipush 50, 2) := by decide +kernel
theorem dX9_radius_3 : decode cX9_radius 3 = .ok (.if_icmp .lt 10, 3) := by decide +kernel
theorem dX9_radius_6 : decode cX9_radius 6 = .ok (.iload_n 1, 1) := by decide +kernel
theorem dX9_radius_7 : decode cX9_radius 7 = .ok (.sipush 500, 3) := by decide +kernel
theorem dX9_radius_10 : decode cX9_radius 10 = .ok (.if_icmp .le 13, 3) := by decide +kernel
theorem dX9_radius_13 : decode cX9_radius 13 = .ok (.new 58, 3) := by decide +kernel
theorem dX9_radius_16 : decode cX9_radius 16 = .ok (.dup, 1) := by decide +kernel
theorem dX9_radius_17 : decode cX9_radius 17 = .ok (.ldc 77, 2) := by decide +kernel
theorem dX9_radius_19 : decode cX9_radius 19 = .ok (.invokespecial 62, 3) := by decide +kernel
theorem dX9_radius_22 : decode cX9_radius 22 = .ok (.athrow, 1) := by decide +kernel
theorem dX9_radius_23 : decode cX9_radius 23 = .ok (.aload_n 0, 1) := by decide +kernel
theorem dX9_radius_24 : decode cX9_radius 24 = .ok (.getfield 19, 3) := by decide +kernel
theorem dX9_radius_27 : decode cX9_radius 27 = .ok (.aload_n 0, 1) := by decide +kernel
theorem dX9_radius_28 : decode cX9_radius 28 = .ok (.getfield 10, 3) := by decide +kernel
theorem dX9_radius_31 : decode cX9_radius 31 = .ok (.invokevirtual 65, 3) := by decide +kernel
theorem dX9_radius_34 : decode cX9_radius 34 = .ok (.aload_n 0, 1) := by decide +kernel
theorem dX9_radius_35 : decode cX9_radius 35 = .ok (.getfield 10, 3) := by decide +kernel
theorem dX9_radius_38 : decode cX9_radius 38 = .ok (.getfield 79, 3) := by decide +kernel
theorem dX9_radius_41 : decode cX9_radius 41 = .ok (.istore_n 2, 1) := by decide +kernel
theorem dX9_radius_42 : decode cX9_radius 42 = .ok (.aload_n 0, 1) := by decide +kernel
theorem dX9_radius_43 : decode cX9_radius 43 = .ok (.getfield 10, 3) := by decide +kernel
theorem dX9_radius_46 : decode cX9_radius 46 = .ok (.iload_n 1, 1) := by decide +kernel
theorem dX9_radius_47 : decode cX9_radius 47 = .ok (.putfield 79, 3) := by decide +kernel
theorem dX9_radius_50 : decode cX9_radius 50 = .ok (.iload_n 2, 1) := by decide +kernel
theorem dX9_radius_51 : decode cX9_radius 51 = .ok (.ireturn, 1) := by decide +kernel
theorem dX9_block_0 : decode cX9_block 0 = .ok (.aload_n 0, 1) := by decide +kernel
theorem dX9_block_1 : decode cX9_block 1 = .ok (.iload_n 1, 1) := by decide +kernel
theorem dX9_block_2 : decode cX9_block 2 = .ok (.invokevirtual 82, 3) := by decide +kernel
theorem dX9_block_5 : decode cX9_block 5 = .ok (.ifCond .eq 13, 3) := by decide +kernel
theorem dX9_block_8 : decode cX9_block 8 = .ok (.new 85, 3) := by decide +kernel
theorem dX9_block_11 : decode cX9_block 11 = .ok (.dup, 1) := by decide +kernel
theorem dX9_block_12 : decode cX9_block 12 = .ok (.ldc 87, 2) := by decide +kernel
theorem dX9_block_14 : decode cX9_block 14 = .ok (.invokespecial 89, 3) := by decide +kernel
theorem dX9_block_17 : decode cX9_block 17 = .ok (.athrow, 1) := by decide +kernel
theorem dX9_block_18 : decode cX9_block 18 = .ok (.iload_n 2, 1) := by decide +kernel
theorem dX9_block_19 : decode cX9_block 19 = .ok (.ifCond .lt 9, 3) := by decide +kernel
theorem dX9_block_22 : decode cX9_block 22 = .ok (.iload_n 2, 1) := by decide +kernel
theorem dX9_block_23 : decode cX9_block 23 = .ok (.bipush 100, 2) := by decide +kernel
theorem dX9_block_25 : decode cX9_block 25 = .ok (.if_icmp .le 13, 3) := by decide +kernel
theorem dX9_block_28 : decode cX9_block 28 = .ok (.new 58, 3) := by decide +kernel
theorem dX9_block_31 : decode cX9_block 31 = .ok (.dup, 1) := by decide +kernel
theorem dX9_block_32 : decode cX9_block 32 = .ok (.ldc 90, 2) := by decide +kernel
theorem dX9_block_34 : decode cX9_block 34 = .ok (.invokespecial 62, 3) := by decide +kernel
theorem dX9_block_37 : decode cX9_block 37 = .ok (.athrow, 1) := by decide +kernel
theorem dX9_block_38 : decode cX9_block 38 = .ok (.aload_n 0, 1) := by decide +kernel
theorem dX9_block_39 : decode cX9_block 39 = .ok (.getfield 19, 3) := by decide +kernel
theorem dX9_block_42 : decode cX9_block 42 = .ok (.aload_n 0, 1) := by decide +kernel
theorem dX9_block_43 : decode cX9_block 43 = .ok (.getfield 10, 3) := by decide +kernel
theorem dX9_block_46 : decode cX9_block 46 = .ok (.invokevirtual 65, 3) := by decide +kernel
theorem dX9_block_49 : decode cX9_block 49 = .ok (.aload_n 0, 1) := by decide +kernel
theorem dX9_block_50 : decode cX9_block 50 = .ok (.getfield 10, 3) := by decide +kernel
theorem dX9_block_53 : decode cX9_block 53 = .ok (.getfield 92, 3) := by decide +kernel
theorem dX9_block_56 : decode cX9_block 56 = .ok (.iload_n 1, 1) := by decide +kernel
theorem dX9_block_57 : decode cX9_block 57 = .ok (.invokestatic 95, 3) := by decide +kernel
theorem dX9_block_60 : decode cX9_block 60 = .ok (.istore_n 3, 1) := by decide +kernel
theorem dX9_block_61 : decode cX9_block 61 = .ok (.aload_n 0, 1) := by decide +kernel
theorem dX9_block_62 : decode cX9_block 62 = .ok (.getfield 10, 3) := by decide +kernel
theorem dX9_block_65 : decode cX9_block 65 = .ok (.getfield 92, 3) := by decide +kernel
theorem dX9_block_68 : decode cX9_block 68 = .ok (.iload_n 1, 1) := by decide +kernel
theorem dX9_block_69 : decode cX9_block 69 = .ok (.iload_n 2, 1) := by decide +kernel
theorem dX9_block_70 : decode cX9_block 70 = .ok (.invokestatic 101, 3) := by decide +kernel
theorem dX9_block_73 : decode cX9_block 73 = .ok (.iload_n 3, 1) := by decide +kernel
theorem dX9_block_74 : decode cX9_block 74 = .ok (.ireturn, 1) := by decide +kernel
theorem dX9_leak_0 : decode cX9_leak 0 = .ok (.aload_n 0, 1) := by decide +kernel
theorem dX9_leak_1 : decode cX9_leak 1 = .ok (.iload_n 1, 1) := by decide +kernel
theorem dX9_leak_2 : decode cX9_leak 2 = .ok (.invokevirtual 82, 3) := by decide +kernel
theorem dX9_leak_5 : decode cX9_leak 5 = .ok (.ifCond .eq 13, 3) := by decide +kernel
theorem dX9_leak_8 : decode cX9_leak 8 = .ok (.new 85, 3) := by decide +kernel
theorem dX9_leak_11 : decode cX9_leak 11 = .ok (.dup, 1) := by decide +kernel
theorem dX9_leak_12 : decode cX9_leak 12 = .ok (.ldc 87, 2) := by decide +kernel
theorem dX9_leak_14 : decode cX9_leak 14 = .ok (.invokespecial 89, 3) := by decide +kernel
theorem dX9_leak_17 : decode cX9_leak 17 = .ok (.athrow, 1) := by decide +kernel
theorem dX9_leak_18 : decode cX9_leak 18 = .ok (.iload_n 2, 1) := by decide +kernel
theorem dX9_leak_19 : decode cX9_leak 19 = .ok (.ifCond .lt 9, 3) := by decide +kernel
theorem dX9_leak_22 : decode cX9_leak 22 = .ok (.iload_n 2, 1) := by decide +kernel
theorem dX9_leak_23 : decode cX9_leak 23 = .ok (.bipush 100, 2) := by decide +kernel
theorem dX9_leak_25 : decode cX9_leak 25 = .ok (.if_icmp .le 13, 3) := by decide +kernel
theorem dX9_leak_28 : decode cX9_leak 28 = .ok (.new 58, 3) := by decide +kernel
theorem dX9_leak_31 : decode cX9_leak 31 = .ok (.dup, 1) := by decide +kernel
theorem dX9_leak_32 : decode cX9_leak 32 = .ok (.ldc 105, 2) := by decide +kernel
theorem dX9_leak_34 : decode cX9_leak 34 = .ok (.invokespecial 62, 3) := by decide +kernel
theorem dX9_leak_37 : decode cX9_leak 37 = .ok (.athrow, 1) := by decide +kernel
theorem dX9_leak_38 : decode cX9_leak 38 = .ok (.aload_n 0, 1) := by decide +kernel
theorem dX9_leak_39 : decode cX9_leak 39 = .ok (.getfield 19, 3) := by decide +kernel
theorem dX9_leak_42 : decode cX9_leak 42 = .ok (.aload_n 0, 1) := by decide +kernel
theorem dX9_leak_43 : decode cX9_leak 43 = .ok (.getfield 10, 3) := by decide +kernel
theorem dX9_leak_46 : decode cX9_leak 46 = .ok (.invokevirtual 65, 3) := by decide +kernel
theorem dX9_leak_49 : decode cX9_leak 49 = .ok (.aload_n 0, 1) := by decide +kernel
theorem dX9_leak_50 : decode cX9_leak 50 = .ok (.getfield 10, 3) := by decide +kernel
theorem dX9_leak_53 : decode cX9_leak 53 = .ok (.getfield 107, 3) := by decide +kernel
theorem dX9_leak_56 : decode cX9_leak 56 = .ok (.iload_n 1, 1) := by decide +kernel
theorem dX9_leak_57 : decode cX9_leak 57 = .ok (.invokestatic 95, 3) := by decide +kernel
theorem dX9_leak_60 : decode cX9_leak 60 = .ok (.istore_n 3, 1) := by decide +kernel
theorem dX9_leak_61 : decode cX9_leak 61 = .ok (.aload_n 0, 1) := by decide +kernel
theorem dX9_leak_62 : decode cX9_leak 62 = .ok (.getfield 10, 3) := by decide +kernel
theorem dX9_leak_65 : decode cX9_leak 65 = .ok (.getfield 107, 3) := by decide +kernel
theorem dX9_leak_68 : decode cX9_leak 68 = .ok (.iload_n 1, 1) := by decide +kernel
theorem dX9_leak_69 : decode cX9_leak 69 = .ok (.iload_n 2, 1) := by decide +kernel
theorem dX9_leak_70 : decode cX9_leak 70 = .ok (.invokestatic 101, 3) := by decide +kernel
theorem dX9_leak_73 : decode cX9_leak 73 = .ok (.iload_n 3, 1) := by decide +kernel
theorem dX9_leak_74 : decode cX9_leak 74 = .ok (.ireturn, 1) := by decide +kernel
theorem dX9_clean_0 : decode cX9_clean 0 = .ok (.aload_n 0, 1) := by decide +kernel
theorem dX9_clean_1 : decode cX9_clean 1 = .ok (.iload_n 1, 1) := by decide +kernel
theorem dX9_clean_2 : decode cX9_clean 2 = .ok (.invokevirtual 82, 3) := by decide +kernel
theorem dX9_clean_5 : decode cX9_clean 5 = .ok (.ifCond .eq 13, 3) := by decide +kernel
theorem dX9_clean_8 : decode cX9_clean 8 = .ok (.new 85, 3) := by decide +kernel
theorem dX9_clean_11 : decode cX9_clean 11 = .ok (.dup, 1) := by decide +kernel
theorem dX9_clean_12 : decode cX9_clean 12 = .ok (.ldc 87, 2) := by decide +kernel
theorem dX9_clean_14 : decode cX9_clean 14 = .ok (.invokespecial 89, 3) := by decide +kernel
theorem dX9_clean_17 : decode cX9_clean 17 = .ok (.athrow, 1) := by decide +kernel
theorem dX9_clean_18 : decode cX9_clean 18 = .ok (.aload_n 0, 1) := by decide +kernel
theorem dX9_clean_19 : decode cX9_clean 19 = .ok (.getfield 19, 3) := by decide +kernel
theorem dX9_clean_22 : decode cX9_clean 22 = .ok (.aload_n 0, 1) := by decide +kernel
theorem dX9_clean_23 : decode cX9_clean 23 = .ok (.getfield 10, 3) := by decide +kernel
theorem dX9_clean_26 : decode cX9_clean 26 = .ok (.invokevirtual 65, 3) := by decide +kernel
theorem dX9_clean_29 : decode cX9_clean 29 = .ok (.aload_n 0, 1) := by decide +kernel
theorem dX9_clean_30 : decode cX9_clean 30 = .ok (.getfield 10, 3) := by decide +kernel
theorem dX9_clean_33 : decode cX9_clean 33 = .ok (.iload_n 1, 1) := by decide +kernel
theorem dX9_clean_34 : decode cX9_clean 34 = .ok (.invokevirtual 110, 3) := by decide +kernel
theorem dX9_clean_37 : decode cX9_clean 37 = .ok (.istore_n 2, 1) := by decide +kernel
theorem dX9_clean_38 : decode cX9_clean 38 = .ok (.aload_n 0, 1) := by decide +kernel
theorem dX9_clean_39 : decode cX9_clean 39 = .ok (.getfield 10, 3) := by decide +kernel
theorem dX9_clean_42 : decode cX9_clean 42 = .ok (.iload_n 1, 1) := by decide +kernel
theorem dX9_clean_43 : decode cX9_clean 43 = .ok (.invokevirtual 114, 3) := by decide +kernel
theorem dX9_clean_46 : decode cX9_clean 46 = .ok (.aload_n 0, 1) := by decide +kernel
theorem dX9_clean_47 : decode cX9_clean 47 = .ok (.getfield 10, 3) := by decide +kernel
theorem dX9_clean_50 : decode cX9_clean 50 = .ok (.iload_n 1, 1) := by decide +kernel
theorem dX9_clean_51 : decode cX9_clean 51 = .ok (.iload_n 2, 1) := by decide +kernel
theorem dX9_clean_52 : decode cX9_clean 52 = .ok (.invokevirtual 117, 3) := by decide +kernel
theorem dX9_clean_55 : decode cX9_clean 55 = .ok (.iload_n 2, 1) := by decide +kernel
theorem dX9_clean_56 : decode cX9_clean 56 = .ok (.ireturn, 1) := by decide +kernel
theorem dX9_test_0 : decode cX9_test 0 = .ok (.aload_n 0, 1) := by decide +kernel
theorem dX9_test_1 : decode cX9_test 1 = .ok (.iload_n 1, 1) := by decide +kernel
theorem dX9_test_2 : decode cX9_test 2 = .ok (.invokevirtual 82, 3) := by decide +kernel
theorem dX9_test_5 : decode cX9_test 5 = .ok (.ifCond .eq 13, 3) := by decide +kernel
theorem dX9_test_8 : decode cX9_test 8 = .ok (.new 85, 3) := by decide +kernel
theorem dX9_test_11 : decode cX9_test 11 = .ok (.dup, 1) := by decide +kernel
theorem dX9_test_12 : decode cX9_test 12 = .ok (.ldc 87, 2) := by decide +kernel
theorem dX9_test_14 : decode cX9_test 14 = .ok (.invokespecial 89, 3) := by decide +kernel
theorem dX9_test_17 : decode cX9_test 17 = .ok (.athrow, 1) := by decide +kernel
theorem dX9_test_18 : decode cX9_test 18 = .ok (.aload_n 0, 1) := by decide +kernel
theorem dX9_test_19 : decode cX9_test 19 = .ok (.getfield 19, 3) := by decide +kernel
theorem dX9_test_22 : decode cX9_test 22 = .ok (.aload_n 0, 1) := by decide +kernel
theorem dX9_test_23 : decode cX9_test 23 = .ok (.getfield 10, 3) := by decide +kernel
theorem dX9_test_26 : decode cX9_test 26 = .ok (.invokevirtual 65, 3) := by decide +kernel
theorem dX9_test_29 : decode cX9_test 29 = .ok (.aload_n 0, 1) := by decide +kernel
theorem dX9_test_30 : decode cX9_test 30 = .ok (.getfield 10, 3) := by decide +kernel
theorem dX9_test_33 : decode cX9_test 33 = .ok (.getfield 107, 3) := by decide +kernel
theorem dX9_test_36 : decode cX9_test 36 = .ok (.iload_n 1, 1) := by decide +kernel
theorem dX9_test_37 : decode cX9_test 37 = .ok (.invokestatic 95, 3) := by decide +kernel
theorem dX9_test_40 : decode cX9_test 40 = .ok (.aload_n 0, 1) := by decide +kernel
theorem dX9_test_41 : decode cX9_test 41 = .ok (.getfield 10, 3) := by decide +kernel
theorem dX9_test_44 : decode cX9_test 44 = .ok (.getfield 121, 3) := by decide +kernel
theorem dX9_test_47 : decode cX9_test 47 = .ok (.iconst 4, 1) := by decide +kernel
theorem dX9_test_48 : decode cX9_test 48 = .ok (.invokestatic 95, 3) := by decide +kernel
theorem dX9_test_51 : decode cX9_test 51 = .ok (.if_icmp .le 7, 3) := by decide +kernel
theorem dX9_test_54 : decode cX9_test 54 = .ok (.iconst 1, 1) := by decide +kernel
theorem dX9_test_55 : decode cX9_test 55 = .ok (.goto 4, 3) := by decide +kernel
theorem dX9_test_58 : decode cX9_test 58 = .ok (.iconst 0, 1) := by decide +kernel
theorem dX9_test_59 : decode cX9_test 59 = .ok (.istore_n 2, 1) := by decide +kernel
theorem dX9_test_60 : decode cX9_test 60 = .ok (.iload_n 2, 1) := by decide +kernel
theorem dX9_test_61 : decode cX9_test 61 = .ok (.ifCond .eq 7, 3) := by decide +kernel
theorem dX9_test_64 : decode cX9_test 64 = .ok (.iconst 2, 1) := by decide +kernel
theorem dX9_test_65 : decode cX9_test 65 = .ok (.goto 4, 3) := by decide +kernel
theorem dX9_test_68 : decode cX9_test 68 = .ok (.iconst 1, 1) := by decide +kernel
theorem dX9_test_69 : decode cX9_test 69 = .ok (.istore_n 3, 1) := by decide +kernel
theorem dX9_test_70 : decode cX9_test 70 = .ok (.aload_n 0, 1) := by decide +kernel
theorem dX9_test_71 : decode cX9_test 71 = .ok (.getfield 10, 3) := by decide +kernel
theorem dX9_test_74 : decode cX9_test 74 = .ok (.getfield 124, 3) := by decide +kernel
theorem dX9_test_77 : decode cX9_test 77 = .ok (.iload_n 1, 1) := by decide +kernel
theorem dX9_test_78 : decode cX9_test 78 = .ok (.iload_n 3, 1) := by decide +kernel
theorem dX9_test_79 : decode cX9_test 79 = .ok (.invokestatic 101, 3) := by decide +kernel
theorem dX9_test_82 : decode cX9_test 82 = .ok (.aload_n 0, 1) := by decide +kernel
theorem dX9_test_83 : decode cX9_test 83 = .ok (.getfield 10, 3) := by decide +kernel
theorem dX9_test_86 : decode cX9_test 86 = .ok (.iload_n 1, 1) := by decide +kernel
theorem dX9_test_87 : decode cX9_test 87 = .ok (.iconst 3, 1) := by decide +kernel
theorem dX9_test_88 : decode cX9_test 88 = .ok (.invokevirtual 117, 3) := by decide +kernel
theorem dX9_test_91 : decode cX9_test 91 = .ok (.iload_n 3, 1) := by decide +kernel
theorem dX9_test_92 : decode cX9_test 92 = .ok (.ireturn, 1) := by decide +kernel
theorem dX9_read_0 : decode cX9_read 0 = .ok (.aload_n 0, 1) := by decide +kernel
theorem dX9_read_1 : decode cX9_read 1 = .ok (.getfield 19, 3) := by decide +kernel
theorem dX9_read_4 : decode cX9_read 4 = .ok (.aload_n 0, 1) := by decide +kernel
theorem dX9_read_5 : decode cX9_read 5 = .ok (.getfield 10, 3) := by decide +kernel
theorem dX9_read_8 : decode cX9_read 8 = .ok (.invokevirtual 65, 3) := by decide +kernel
theorem dX9_read_11 : decode cX9_read 11 = .ok (.iconst 0, 1) := by decide +kernel
theorem dX9_read_12 : decode cX9_read 12 = .ok (.istore_n 1, 1) := by decide +kernel
theorem dX9_read_13 : decode cX9_read 13 = .ok (.iload_n 1, 1) := by decide +kernel
theorem dX9_read_14 : decode cX9_read 14 = .ok (.aload_n 0, 1) := by decide +kernel
theorem dX9_read_15 : decode cX9_read 15 = .ok (.getfield 10, 3) := by decide +kernel
theorem dX9_read_18 : decode cX9_read 18 = .ok (.getfield 69, 3) := by decide +kernel
theorem dX9_read_21 : decode cX9_read 21 = .ok (.if_icmp .ge 33, 3) := by decide +kernel
theorem dX9_read_24 : decode cX9_read 24 = .ok (.aload_n 0, 1) := by decide +kernel
theorem dX9_read_25 : decode cX9_read 25 = .ok (.getfield 50, 3) := by decide +kernel
theorem dX9_read_28 : decode cX9_read 28 = .ok (.iload_n 1, 1) := by decide +kernel
theorem dX9_read_29 : decode cX9_read 29 = .ok (.aload_n 0, 1) := by decide +kernel
theorem dX9_read_30 : decode cX9_read 30 = .ok (.getfield 10, 3) := by decide +kernel
theorem dX9_read_33 : decode cX9_read 33 = .ok (.iload_n 1, 1) := by decide +kernel
theorem dX9_read_34 : decode cX9_read 34 = .ok (.aload_n 0, 1) := by decide +kernel
theorem dX9_read_35 : decode cX9_read 35 = .ok (.getfield 10, 3) := by decide +kernel
theorem dX9_read_38 : decode cX9_read 38 = .ok (.iload_n 1, 1) := by decide +kernel
theorem dX9_read_39 : decode cX9_read 39 = .ok (.invokestatic 127, 3) := by decide +kernel
theorem dX9_read_42 : decode cX9_read 42 = .ok (.invokestatic 133, 3) := by decide +kernel
theorem dX9_read_45 : decode cX9_read 45 = .ok (.invokestatic 101, 3) := by decide +kernel
theorem dX9_read_48 : decode cX9_read 48 = .ok (.iinc 1 1, 3) := by decide +kernel
theorem dX9_read_51 : decode cX9_read 51 = .ok (.goto (-38), 3) := by decide +kernel
theorem dX9_read_54 : decode cX9_read 54 = .ok (.aload_n 0, 1) := by decide +kernel
theorem dX9_read_55 : decode cX9_read 55 = .ok (.getfield 10, 3) := by decide +kernel
theorem dX9_read_58 : decode cX9_read 58 = .ok (.aload_n 0, 1) := by decide +kernel
theorem dX9_read_59 : decode cX9_read 59 = .ok (.getfield 50, 3) := by decide +kernel
theorem dX9_read_62 : decode cX9_read 62 = .ok (.aload_n 0, 1) := by decide +kernel
theorem dX9_read_63 : decode cX9_read 63 = .ok (.getfield 10, 3) := by decide +kernel
theorem dX9_read_66 : decode cX9_read 66 = .ok (.getfield 69, 3) := by decide +kernel
theorem dX9_read_69 : decode cX9_read 69 = .ok (.invokevirtual 137, 3) := by decide +kernel
theorem dX9_read_72 : decode cX9_read 72 = .ok (.aload_n 0, 1) := by decide +kernel
theorem dX9_read_73 : decode cX9_read 73 = .ok (.getfield 10, 3) := by decide +kernel
theorem dX9_read_76 : decode cX9_read 76 = .ok (.getfield 141, 3) := by decide +kernel
theorem dX9_read_79 : decode cX9_read 79 = .ok (.getfield 145, 3) := by decide +kernel
theorem dX9_read_82 : decode cX9_read 82 = .ok (.ireturn, 1) := by decide +kernel
theorem dX9_drop_0 : decode cX9_drop 0 = .ok (.aload_n 0, 1) := by decide +kernel
theorem dX9_drop_1 : decode cX9_drop 1 = .ok (.iload_n 1, 1) := by decide +kernel
theorem dX9_drop_2 : decode cX9_drop 2 = .ok (.invokevirtual 150, 3) := by decide +kernel
theorem dX9_drop_5 : decode cX9_drop 5 = .ok (.ifCond .eq 13, 3) := by decide +kernel
theorem dX9_drop_8 : decode cX9_drop 8 = .ok (.new 85, 3) := by decide +kernel
theorem dX9_drop_11 : decode cX9_drop 11 = .ok (.dup, 1) := by decide +kernel
theorem dX9_drop_12 : decode cX9_drop 12 = .ok (.ldc 153, 2) := by decide +kernel
theorem dX9_drop_14 : decode cX9_drop 14 = .ok (.invokespecial 89, 3) := by decide +kernel
theorem dX9_drop_17 : decode cX9_drop 17 = .ok (.athrow, 1) := by decide +kernel
theorem dX9_drop_18 : decode cX9_drop 18 = .ok (.aload_n 0, 1) := by decide +kernel
theorem dX9_drop_19 : decode cX9_drop 19 = .ok (.getfield 19, 3) := by decide +kernel
theorem dX9_drop_22 : decode cX9_drop 22 = .ok (.aload_n 0, 1) := by decide +kernel
theorem dX9_drop_23 : decode cX9_drop 23 = .ok (.getfield 10, 3) := by decide +kernel
theorem dX9_drop_26 : decode cX9_drop 26 = .ok (.invokevirtual 65, 3) := by decide +kernel
theorem dX9_drop_29 : decode cX9_drop 29 = .ok (.aload_n 0, 1) := by decide +kernel
theorem dX9_drop_30 : decode cX9_drop 30 = .ok (.getfield 10, 3) := by decide +kernel
theorem dX9_drop_33 : decode cX9_drop 33 = .ok (.getfield 141, 3) := by decide +kernel
theorem dX9_drop_36 : decode cX9_drop 36 = .ok (.iload_n 1, 1) := by decide +kernel
theorem dX9_drop_37 : decode cX9_drop 37 = .ok (.invokevirtual 155, 3) := by decide +kernel
theorem dX9_drop_40 : decode cX9_drop 40 = .ok (.aload_n 0, 1) := by decide +kernel
theorem dX9_drop_41 : decode cX9_drop 41 = .ok (.getfield 10, 3) := by decide +kernel
theorem dX9_drop_44 : decode cX9_drop 44 = .ok (.getfield 141, 3) := by decide +kernel
theorem dX9_drop_47 : decode cX9_drop 47 = .ok (.getfield 145, 3) := by decide +kernel
theorem dX9_drop_50 : decode cX9_drop 50 = .ok (.ireturn, 1) := by decide +kernel
theorem dX9_set_0 : decode cX9_set 0 = .ok (.iload_n 1, 1) := by decide +kernel
theorem dX9_set_1 : decode cX9_set 1 = .ok (.invokestatic 158, 3) := by decide +kernel
theorem dX9_set_4 : decode cX9_set 4 = .ok (.ifCond .eq 13, 3) := by decide +kernel
theorem dX9_set_7 : decode cX9_set 7 = .ok (.new 85, 3) := by decide +kernel
theorem dX9_set_10 : decode cX9_set 10 = .ok (.dup, 1) := by decide +kernel
theorem dX9_set_11 : decode cX9_set 11 = .ok (.ldc 161, 2) := by decide +kernel
theorem dX9_set_13 : decode cX9_set 13 = .ok (.invokespecial 89, 3) := by decide +kernel
theorem dX9_set_16 : decode cX9_set 16 = .ok (.athrow, 1) := by decide +kernel
end
section
theorem dX9_set_17 : decode cX9_set 17 = .ok (.iload_n 2, 1) := by decide +kernel
theorem dX9_set_18 : decode cX9_set 18 = .ok (.ifCond .lt 14, 3) := by decide +kernel
theorem dX9_set_21 : decode cX9_set 21 = .ok (.iload_n 2, 1) := by decide +kernel
theorem dX9_set_22 : decode cX9_set 22 = .ok (.getstatic 163, 3) := by decide +kernel
theorem dX9_set_25 : decode cX9_set 25 = .ok (.iload_n 1, 1) := by decide +kernel
theorem dX9_set_26 : decode cX9_set 26 = .ok (.invokestatic 95, 3) := by decide +kernel
theorem dX9_set_29 : decode cX9_set 29 = .ok (.if_icmp .le 13, 3) := by decide +kernel
theorem dX9_set_32 : decode cX9_set 32 = .ok (.new 58, 3) := by decide +kernel
theorem dX9_set_35 : decode cX9_set 35 = .ok (.dup, 1) := by decide +kernel
theorem dX9_set_36 : decode cX9_set 36 = .ok (.ldc 166, 2) := by decide +kernel
theorem dX9_set_38 : decode cX9_set 38 = .ok (.invokespecial 62, 3) := by decide +kernel
theorem dX9_set_41 : decode cX9_set 41 = .ok (.athrow, 1) := by decide +kernel
theorem dX9_set_42 : decode cX9_set 42 = .ok (.aload_n 0, 1) := by decide +kernel
theorem dX9_set_43 : decode cX9_set 43 = .ok (.getfield 19, 3) := by decide +kernel
theorem dX9_set_46 : decode cX9_set 46 = .ok (.aload_n 0, 1) := by decide +kernel
theorem dX9_set_47 : decode cX9_set 47 = .ok (.getfield 10, 3) := by decide +kernel
theorem dX9_set_50 : decode cX9_set 50 = .ok (.invokevirtual 65, 3) := by decide +kernel
theorem dX9_set_53 : decode cX9_set 53 = .ok (.aload_n 0, 1) := by decide +kernel
theorem dX9_set_54 : decode cX9_set 54 = .ok (.getfield 10, 3) := by decide +kernel
theorem dX9_set_57 : decode cX9_set 57 = .ok (.getfield 121, 3) := by decide +kernel
theorem dX9_set_60 : decode cX9_set 60 = .ok (.iload_n 1, 1) := by decide +kernel
theorem dX9_set_61 : decode cX9_set 61 = .ok (.invokestatic 95, 3) := by decide +kernel
theorem dX9_set_64 : decode cX9_set 64 = .ok (.istore_n 3, 1) := by decide +kernel
theorem dX9_set_65 : decode cX9_set 65 = .ok (.aload_n 0, 1) := by decide +kernel
theorem dX9_set_66 : decode cX9_set 66 = .ok (.getfield 10, 3) := by decide +kernel
theorem dX9_set_69 : decode cX9_set 69 = .ok (.getfield 121, 3) := by decide +kernel
theorem dX9_set_72 : decode cX9_set 72 = .ok (.iload_n 1, 1) := by decide +kernel
theorem dX9_set_73 : decode cX9_set 73 = .ok (.iload_n 2, 1) := by decide +kernel
theorem dX9_set_74 : decode cX9_set 74 = .ok (.invokestatic 101, 3) := by decide +kernel
theorem dX9_set_77 : decode cX9_set 77 = .ok (.iload_n 3, 1) := by decide +kernel
theorem dX9_set_78 : decode cX9_set 78 = .ok (.ireturn, 1) := by decide +kernel
theorem dX9_append_0 : decode cX9_append 0 = .ok (.iload_n 1, 1) := by decide +kernel
theorem dX9_append_1 : decode cX9_append 1 = .ok (.bipush 33, 2) := by decide +kernel
theorem dX9_append_3 : decode cX9_append 3 = .ok (.if_icmp .lt 9, 3) := by decide +kernel
theorem dX9_append_6 : decode cX9_append 6 = .ok (.iload_n 1, 1) := by decide +kernel
theorem dX9_append_7 : decode cX9_append 7 = .ok (.bipush 126, 2) := by decide +kernel
theorem dX9_append_9 : decode cX9_append 9 = .ok (.if_icmp .le 13, 3) := by decide +kernel
theorem dX9_append_12 : decode cX9_append 12 = .ok (.new 58, 3) := by decide +kernel
theorem dX9_append_15 : decode cX9_append 15 = .ok (.dup, 1) := by decide +kernel
theorem dX9_append_16 : decode cX9_append 16 = .ok (.ldc 168, 2) := by decide +kernel
theorem dX9_append_18 : decode cX9_append 18 = .ok (.invokespecial 62, 3) := by decide +kernel
theorem dX9_append_21 : decode cX9_append 21 = .ok (.athrow, 1) := by decide +kernel
theorem dX9_append_22 : decode cX9_append 22 = .ok (.aload_n 0, 1) := by decide +kernel
theorem dX9_append_23 : decode cX9_append 23 = .ok (.getfield 36, 3) := by decide +kernel
theorem dX9_append_26 : decode cX9_append 26 = .ok (.getfield 170, 3) := by decide +kernel
theorem dX9_append_29 : decode cX9_append 29 = .ok (.bipush 50, 2) := by decide +kernel
theorem dX9_append_31 : decode cX9_append 31 = .ok (.if_icmp .lt 13, 3) := by decide +kernel
theorem dX9_append_34 : decode cX9_append 34 = .ok (.new 173, 3) := by decide +kernel
theorem dX9_append_37 : decode cX9_append 37 = .ok (.dup, 1) := by decide +kernel
theorem dX9_append_38 : decode cX9_append 38 = .ok (.ldc 175, 2) := by decide +kernel
theorem dX9_append_40 : decode cX9_append 40 = .ok (.invokespecial 177, 3) := by decide +kernel
theorem dX9_append_43 : decode cX9_append 43 = .ok (.athrow, 1) := by decide +kernel
theorem dX9_append_44 : decode cX9_append 44 = .ok (.aload_n 0, 1) := by decide +kernel
theorem dX9_append_45 : decode cX9_append 45 = .ok (.getfield 36, 3) := by decide +kernel
theorem dX9_append_48 : decode cX9_append 48 = .ok (.iload_n 1, 1) := by decide +kernel
theorem dX9_append_49 : decode cX9_append 49 = .ok (.invokevirtual 178, 3) := by decide +kernel
theorem dX9_append_52 : decode cX9_append 52 = .ok (.aload_n 0, 1) := by decide +kernel
theorem dX9_append_53 : decode cX9_append 53 = .ok (.getfield 36, 3) := by decide +kernel
theorem dX9_append_56 : decode cX9_append 56 = .ok (.getfield 170, 3) := by decide +kernel
theorem dX9_append_59 : decode cX9_append 59 = .ok (.ireturn, 1) := by decide +kernel
theorem dX9_clearBuffer_0 : decode cX9_clearBuffer 0 = .ok (.aload_n 0, 1) := by decide +kernel
theorem dX9_clearBuffer_1 : decode cX9_clearBuffer 1 = .ok (.getfield 36, 3) := by decide +kernel
theorem dX9_clearBuffer_4 : decode cX9_clearBuffer 4 = .ok (.getfield 170, 3) := by decide +kernel
theorem dX9_clearBuffer_7 : decode cX9_clearBuffer 7 = .ok (.istore_n 1, 1) := by decide +kernel
theorem dX9_clearBuffer_8 : decode cX9_clearBuffer 8 = .ok (.aload_n 0, 1) := by decide +kernel
theorem dX9_clearBuffer_9 : decode cX9_clearBuffer 9 = .ok (.getfield 36, 3) := by decide +kernel
theorem dX9_clearBuffer_12 : decode cX9_clearBuffer 12 = .ok (.iconst 0, 1) := by decide +kernel
theorem dX9_clearBuffer_13 : decode cX9_clearBuffer 13 = .ok (.putfield 170, 3) := by decide +kernel
theorem dX9_clearBuffer_16 : decode cX9_clearBuffer 16 = .ok (.iload_n 1, 1) := by decide +kernel
theorem dX9_clearBuffer_17 : decode cX9_clearBuffer 17 = .ok (.ireturn, 1) := by decide +kernel
theorem dX9_firstError_0 : decode cX9_firstError 0 = .ok (.aload_n 0, 1) := by decide +kernel
theorem dX9_firstError_1 : decode cX9_firstError 1 = .ok (.getfield 36, 3) := by decide +kernel
theorem dX9_firstError_4 : decode cX9_firstError 4 = .ok (.invokevirtual 181, 3) := by decide +kernel
theorem dX9_firstError_7 : decode cX9_firstError 7 = .ok (.ireturn, 1) := by decide +kernel
theorem dX9_load_0 : decode cX9_load 0 = .ok (.aload_n 0, 1) := by decide +kernel
theorem dX9_load_1 : decode cX9_load 1 = .ok (.getfield 36, 3) := by decide +kernel
theorem dX9_load_4 : decode cX9_load 4 = .ok (.invokevirtual 185, 3) := by decide +kernel
theorem dX9_load_7 : decode cX9_load 7 = .ok (.ifCond .ne 13, 3) := by decide +kernel
theorem dX9_load_10 : decode cX9_load 10 = .ok (.new 58, 3) := by decide +kernel
theorem dX9_load_13 : decode cX9_load 13 = .ok (.dup, 1) := by decide +kernel
theorem dX9_load_14 : decode cX9_load 14 = .ok (.ldc 189, 2) := by decide +kernel
theorem dX9_load_16 : decode cX9_load 16 = .ok (.invokespecial 62, 3) := by decide +kernel
theorem dX9_load_19 : decode cX9_load 19 = .ok (.athrow, 1) := by decide +kernel
theorem dX9_load_20 : decode cX9_load 20 = .ok (.aload_n 0, 1) := by decide +kernel
theorem dX9_load_21 : decode cX9_load 21 = .ok (.getfield 19, 3) := by decide +kernel
theorem dX9_load_24 : decode cX9_load 24 = .ok (.aload_n 0, 1) := by decide +kernel
theorem dX9_load_25 : decode cX9_load 25 = .ok (.getfield 10, 3) := by decide +kernel
theorem dX9_load_28 : decode cX9_load 28 = .ok (.invokevirtual 65, 3) := by decide +kernel
theorem dX9_load_31 : decode cX9_load 31 = .ok (.aload_n 0, 1) := by decide +kernel
theorem dX9_load_32 : decode cX9_load 32 = .ok (.getfield 36, 3) := by decide +kernel
theorem dX9_load_35 : decode cX9_load 35 = .ok (.aload_n 0, 1) := by decide +kernel
theorem dX9_load_36 : decode cX9_load 36 = .ok (.getfield 50, 3) := by decide +kernel
theorem dX9_load_39 : decode cX9_load 39 = .ok (.invokevirtual 191, 3) := by decide +kernel
theorem dX9_load_42 : decode cX9_load 42 = .ok (.istore_n 1, 1) := by decide +kernel
theorem dX9_load_43 : decode cX9_load 43 = .ok (.aload_n 0, 1) := by decide +kernel
theorem dX9_load_44 : decode cX9_load 44 = .ok (.getfield 10, 3) := by decide +kernel
theorem dX9_load_47 : decode cX9_load 47 = .ok (.aload_n 0, 1) := by decide +kernel
theorem dX9_load_48 : decode cX9_load 48 = .ok (.getfield 50, 3) := by decide +kernel
theorem dX9_load_51 : decode cX9_load 51 = .ok (.iload_n 1, 1) := by decide +kernel
theorem dX9_load_52 : decode cX9_load 52 = .ok (.invokevirtual 137, 3) := by decide +kernel
theorem dX9_load_55 : decode cX9_load 55 = .ok (.aload_n 0, 1) := by decide +kernel
theorem dX9_load_56 : decode cX9_load 56 = .ok (.getfield 36, 3) := by decide +kernel
theorem dX9_load_59 : decode cX9_load 59 = .ok (.iconst 0, 1) := by decide +kernel
theorem dX9_load_60 : decode cX9_load 60 = .ok (.putfield 170, 3) := by decide +kernel
theorem dX9_load_63 : decode cX9_load 63 = .ok (.iload_n 1, 1) := by decide +kernel
theorem dX9_load_64 : decode cX9_load 64 = .ok (.ireturn, 1) := by decide +kernel
theorem dX9_keep_0 : decode cX9_keep 0 = .ok (.iload_n 1, 1) := by decide +kernel
theorem dX9_keep_1 : decode cX9_keep 1 = .ok (.invokestatic 195, 3) := by decide +kernel
theorem dX9_keep_4 : decode cX9_keep 4 = .ok (.ifCond .eq 13, 3) := by decide +kernel
theorem dX9_keep_7 : decode cX9_keep 7 = .ok (.new 58, 3) := by decide +kernel
theorem dX9_keep_10 : decode cX9_keep 10 = .ok (.dup, 1) := by decide +kernel
theorem dX9_keep_11 : decode cX9_keep 11 = .ok (.ldc 198, 2) := by decide +kernel
theorem dX9_keep_13 : decode cX9_keep 13 = .ok (.invokespecial 62, 3) := by decide +kernel
theorem dX9_keep_16 : decode cX9_keep 16 = .ok (.athrow, 1) := by decide +kernel
theorem dX9_keep_17 : decode cX9_keep 17 = .ok (.aload_n 0, 1) := by decide +kernel
theorem dX9_keep_18 : decode cX9_keep 18 = .ok (.iload_n 1, 1) := by decide +kernel
theorem dX9_keep_19 : decode cX9_keep 19 = .ok (.invokevirtual 200, 3) := by decide +kernel
theorem dX9_keep_22 : decode cX9_keep 22 = .ok (.astore_n 2, 1) := by decide +kernel
theorem dX9_keep_23 : decode cX9_keep 23 = .ok (.aload_n 2, 1) := by decide +kernel
theorem dX9_keep_24 : decode cX9_keep 24 = .ok (.getfield 204, 3) := by decide +kernel
theorem dX9_keep_27 : decode cX9_keep 27 = .ok (.aload_n 0, 1) := by decide +kernel
theorem dX9_keep_28 : decode cX9_keep 28 = .ok (.getfield 10, 3) := by decide +kernel
theorem dX9_keep_31 : decode cX9_keep 31 = .ok (.invokevirtual 207, 3) := by decide +kernel
theorem dX9_keep_34 : decode cX9_keep 34 = .ok (.aload_n 2, 1) := by decide +kernel
theorem dX9_keep_35 : decode cX9_keep 35 = .ok (.iconst 1, 1) := by decide +kernel
theorem dX9_keep_36 : decode cX9_keep 36 = .ok (.putfield 210, 3) := by decide +kernel
theorem dX9_keep_39 : decode cX9_keep 39 = .ok (.aload_n 0, 1) := by decide +kernel
theorem dX9_keep_40 : decode cX9_keep 40 = .ok (.getfield 10, 3) := by decide +kernel
theorem dX9_keep_43 : decode cX9_keep 43 = .ok (.getfield 141, 3) := by decide +kernel
theorem dX9_keep_46 : decode cX9_keep 46 = .ok (.getfield 145, 3) := by decide +kernel
theorem dX9_keep_49 : decode cX9_keep 49 = .ok (.ireturn, 1) := by decide +kernel
theorem dX9_goBack_0 : decode cX9_goBack 0 = .ok (.iload_n 1, 1) := by decide +kernel
theorem dX9_goBack_1 : decode cX9_goBack 1 = .ok (.invokestatic 195, 3) := by decide +kernel
theorem dX9_goBack_4 : decode cX9_goBack 4 = .ok (.ifCond .eq 13, 3) := by decide +kernel
theorem dX9_goBack_7 : decode cX9_goBack 7 = .ok (.new 58, 3) := by decide +kernel
theorem dX9_goBack_10 : decode cX9_goBack 10 = .ok (.dup, 1) := by decide +kernel
theorem dX9_goBack_11 : decode cX9_goBack 11 = .ok (.ldc 198, 2) := by decide +kernel
theorem dX9_goBack_13 : decode cX9_goBack 13 = .ok (.invokespecial 62, 3) := by decide +kernel
theorem dX9_goBack_16 : decode cX9_goBack 16 = .ok (.athrow, 1) := by decide +kernel
theorem dX9_goBack_17 : decode cX9_goBack 17 = .ok (.aload_n 0, 1) := by decide +kernel
theorem dX9_goBack_18 : decode cX9_goBack 18 = .ok (.iload_n 1, 1) := by decide +kernel
theorem dX9_goBack_19 : decode cX9_goBack 19 = .ok (.invokevirtual 200, 3) := by decide +kernel
theorem dX9_goBack_22 : decode cX9_goBack 22 = .ok (.astore_n 2, 1) := by decide +kernel
theorem dX9_goBack_23 : decode cX9_goBack 23 = .ok (.aload_n 2, 1) := by decide +kernel
theorem dX9_goBack_24 : decode cX9_goBack 24 = .ok (.getfield 210, 3) := by decide +kernel
theorem dX9_goBack_27 : decode cX9_goBack 27 = .ok (.ifCond .ne 13, 3) := by decide +kernel
theorem dX9_goBack_30 : decode cX9_goBack 30 = .ok (.new 173, 3) := by decide +kernel
theorem dX9_goBack_33 : decode cX9_goBack 33 = .ok (.dup, 1) := by decide +kernel
theorem dX9_goBack_34 : decode cX9_goBack 34 = .ok (.ldc 214, 2) := by decide +kernel
theorem dX9_goBack_36 : decode cX9_goBack 36 = .ok (.invokespecial 177, 3) := by decide +kernel
theorem dX9_goBack_39 : decode cX9_goBack 39 = .ok (.athrow, 1) := by decide +kernel
theorem dX9_goBack_40 : decode cX9_goBack 40 = .ok (.aload_n 0, 1) := by decide +kernel
theorem dX9_goBack_41 : decode cX9_goBack 41 = .ok (.getfield 19, 3) := by decide +kernel
theorem dX9_goBack_44 : decode cX9_goBack 44 = .ok (.aload_n 0, 1) := by decide +kernel
theorem dX9_goBack_45 : decode cX9_goBack 45 = .ok (.getfield 10, 3) := by decide +kernel
theorem dX9_goBack_48 : decode cX9_goBack 48 = .ok (.invokevirtual 65, 3) := by decide +kernel
theorem dX9_goBack_51 : decode cX9_goBack 51 = .ok (.aload_n 0, 1) := by decide +kernel
theorem dX9_goBack_52 : decode cX9_goBack 52 = .ok (.getfield 10, 3) := by decide +kernel
theorem dX9_goBack_55 : decode cX9_goBack 55 = .ok (.aload_n 2, 1) := by decide +kernel
theorem dX9_goBack_56 : decode cX9_goBack 56 = .ok (.getfield 204, 3) := by decide +kernel
theorem dX9_goBack_59 : decode cX9_goBack 59 = .ok (.invokevirtual 207, 3) := by decide +kernel
theorem dX9_goBack_62 : decode cX9_goBack 62 = .ok (.aload_n 0, 1) := by decide +kernel
theorem dX9_goBack_63 : decode cX9_goBack 63 = .ok (.getfield 10, 3) := by decide +kernel
theorem dX9_goBack_66 : decode cX9_goBack 66 = .ok (.getfield 141, 3) := by decide +kernel
theorem dX9_goBack_69 : decode cX9_goBack 69 = .ok (.getfield 145, 3) := by decide +kernel
theorem dX9_goBack_72 : decode cX9_goBack 72 = .ok (.ireturn, 1) := by decide +kernel
theorem dX9_undo_0 : decode cX9_undo 0 = .ok (.aload_n 0, 1) := by decide +kernel
theorem dX9_undo_1 : decode cX9_undo 1 = .ok (.getfield 19, 3) := by decide +kernel
theorem dX9_undo_4 : decode cX9_undo 4 = .ok (.getfield 216, 3) := by decide +kernel
theorem dX9_undo_7 : decode cX9_undo 7 = .ok (.ifCond .ne 13, 3) := by decide +kernel
theorem dX9_undo_10 : decode cX9_undo 10 = .ok (.new 173, 3) := by decide +kernel
theorem dX9_undo_13 : decode cX9_undo 13 = .ok (.dup, 1) := by decide +kernel
theorem dX9_undo_14 : decode cX9_undo 14 = .ok (.ldc 217, 2) := by decide +kernel
theorem dX9_undo_16 : decode cX9_undo 16 = .ok (.invokespecial 177, 3) := by decide +kernel
theorem dX9_undo_19 : decode cX9_undo 19 = .ok (.athrow, 1) := by decide +kernel
theorem dX9_undo_20 : decode cX9_undo 20 = .ok (.aload_n 0, 1) := by decide +kernel
theorem dX9_undo_21 : decode cX9_undo 21 = .ok (.getfield 19, 3) := by decide +kernel
theorem dX9_undo_24 : decode cX9_undo 24 = .ok (.aload_n 0, 1) := by decide +kernel
theorem dX9_undo_25 : decode cX9_undo 25 = .ok (.getfield 10, 3) := by decide +kernel
theorem dX9_undo_28 : decode cX9_undo 28 = .ok (.invokevirtual 219, 3) := by decide +kernel
theorem dX9_undo_31 : decode cX9_undo 31 = .ok (.aload_n 0, 1) := by decide +kernel
theorem dX9_undo_32 : decode cX9_undo 32 = .ok (.getfield 19, 3) := by decide +kernel
theorem dX9_undo_35 : decode cX9_undo 35 = .ok (.getfield 216, 3) := by decide +kernel
theorem dX9_undo_38 : decode cX9_undo 38 = .ok (.ireturn, 1) := by decide +kernel
theorem dX9_hole_0 : decode cX9_hole 0 = .ok (.aload_n 0, 1) := by decide +kernel
theorem dX9_hole_1 : decode cX9_hole 1 = .ok (.iload_n 1, 1) := by decide +kernel
theorem dX9_hole_2 : decode cX9_hole 2 = .ok (.invokevirtual 82, 3) := by decide +kernel
theorem dX9_hole_5 : decode cX9_hole 5 = .ok (.ifCond .eq 13, 3) := by decide +kernel
theorem dX9_hole_8 : decode cX9_hole 8 = .ok (.new 85, 3) := by decide +kernel
theorem dX9_hole_11 : decode cX9_hole 11 = .ok (.dup, 1) := by decide +kernel
theorem dX9_hole_12 : decode cX9_hole 12 = .ok (.ldc 87, 2) := by decide +kernel
theorem dX9_hole_14 : decode cX9_hole 14 = .ok (.invokespecial 89, 3) := by decide +kernel
theorem dX9_hole_17 : decode cX9_hole 17 = .ok (.athrow, 1) := by decide +kernel
theorem dX9_hole_18 : decode cX9_hole 18 = .ok (.iload_n 2, 1) := by decide +kernel
theorem dX9_hole_19 : decode cX9_hole 19 = .ok (.ifCond .lt 9, 3) := by decide +kernel
theorem dX9_hole_22 : decode cX9_hole 22 = .ok (.iload_n 2, 1) := by decide +kernel
theorem dX9_hole_23 : decode cX9_hole 23 = .ok (.bipush 11, 2) := by decide +kernel
theorem dX9_hole_25 : decode cX9_hole 25 = .ok (.if_icmp .le 13, 3) := by decide +kernel
theorem dX9_hole_28 : decode cX9_hole 28 = .ok (.new 58, 3) := by decide +kernel
theorem dX9_hole_31 : decode cX9_hole 31 = .ok (.dup, 1) := by decide +kernel
theorem dX9_hole_32 : decode cX9_hole 32 = .ok (.ldc 222, 2) := by decide +kernel
theorem dX9_hole_34 : decode cX9_hole 34 = .ok (.invokespecial 62, 3) := by decide +kernel
theorem dX9_hole_37 : decode cX9_hole 37 = .ok (.athrow, 1) := by decide +kernel
theorem dX9_hole_38 : decode cX9_hole 38 = .ok (.aload_n 0, 1) := by decide +kernel
theorem dX9_hole_39 : decode cX9_hole 39 = .ok (.getfield 43, 3) := by decide +kernel
theorem dX9_hole_42 : decode cX9_hole 42 = .ok (.aload_n 0, 1) := by decide +kernel
theorem dX9_hole_43 : decode cX9_hole 43 = .ok (.getfield 10, 3) := by decide +kernel
theorem dX9_hole_46 : decode cX9_hole 46 = .ok (.invokevirtual 224, 3) := by decide +kernel
theorem dX9_hole_49 : decode cX9_hole 49 = .ok (.aload_n 0, 1) := by decide +kernel
theorem dX9_hole_50 : decode cX9_hole 50 = .ok (.iload_n 1, 1) := by decide +kernel
theorem dX9_hole_51 : decode cX9_hole 51 = .ok (.iload_n 2, 1) := by decide +kernel
theorem dX9_hole_52 : decode cX9_hole 52 = .ok (.aload_n 0, 1) := by decide +kernel
theorem dX9_hole_53 : decode cX9_hole 53 = .ok (.getfield 43, 3) := by decide +kernel
theorem dX9_hole_56 : decode cX9_hole 56 = .ok (.invokevirtual 227, 3) := by decide +kernel
theorem dX9_hole_59 : decode cX9_hole 59 = .ok (.ireturn, 1) := by decide +kernel
theorem dX9_reading_0 : decode cX9_reading 0 = .ok (.aload_n 0, 1) := by decide +kernel
theorem dX9_reading_1 : decode cX9_reading 1 = .ok (.iload_n 1, 1) := by decide +kernel
theorem dX9_reading_2 : decode cX9_reading 2 = .ok (.invokevirtual 150, 3) := by decide +kernel
theorem dX9_reading_5 : decode cX9_reading 5 = .ok (.ifCond .eq 13, 3) := by decide +kernel
theorem dX9_reading_8 : decode cX9_reading 8 = .ok (.new 85, 3) := by decide +kernel
theorem dX9_reading_11 : decode cX9_reading 11 = .ok (.dup, 1) := by decide +kernel
theorem dX9_reading_12 : decode cX9_reading 12 = .ok (.ldc 153, 2) := by decide +kernel
theorem dX9_reading_14 : decode cX9_reading 14 = .ok (.invokespecial 89, 3) := by decide +kernel
theorem dX9_reading_17 : decode cX9_reading 17 = .ok (.athrow, 1) := by decide +kernel
theorem dX9_reading_18 : decode cX9_reading 18 = .ok (.iload_n 2, 1) := by decide +kernel
theorem dX9_reading_19 : decode cX9_reading 19 = .ok (.ifCond .lt 9, 3) := by decide +kernel
theorem dX9_reading_22 : decode cX9_reading 22 = .ok (.iload_n 2, 1) := by decide +kernel
theorem dX9_reading_23 : decode cX9_reading 23 = .ok (.bipush 10, 2) := by decide +kernel
theorem dX9_reading_25 : decode cX9_reading 25 = .ok (.if_icmp .le 13, 3) := by decide +kernel
theorem dX9_reading_28 : decode cX9_reading 28 = .ok (.new 58, 3) := by decide +kernel
theorem dX9_reading_31 : decode cX9_reading 31 = .ok (.dup, 1) := by decide +kernel
theorem dX9_reading_32 : decode cX9_reading 32 = .ok (.ldc 231, 2) := by decide +kernel
theorem dX9_reading_34 : decode cX9_reading 34 = .ok (.invokespecial 62, 3) := by decide +kernel
theorem dX9_reading_37 : decode cX9_reading 37 = .ok (.athrow, 1) := by decide +kernel
theorem dX9_reading_38 : decode cX9_reading 38 = .ok (.aload_n 0, 1) := by decide +kernel
theorem dX9_reading_39 : decode cX9_reading 39 = .ok (.iload_n 1, 1) := by decide +kernel
theorem dX9_reading_40 : decode cX9_reading 40 = .ok (.iload_n 2, 1) := by decide +kernel
theorem dX9_reading_41 : decode cX9_reading 41 = .ok (.invokevirtual 233, 3) := by decide +kernel
theorem dX9_reading_44 : decode cX9_reading 44 = .ok (.ireturn, 1) := by decide +kernel
theorem dX9_flow_0 : decode cX9_flow 0 = .ok (.iload_n 1, 1) := by decide +kernel
theorem dX9_flow_1 : decode cX9_flow 1 = .ok (.ifCond .lt 8, 3) := by decide +kernel
theorem dX9_flow_4 : decode cX9_flow 4 = .ok (.iload_n 1, 1) := by decide +kernel
theorem dX9_flow_5 : decode cX9_flow 5 = .ok (.iconst 3, 1) := by decide +kernel
theorem dX9_flow_6 : decode cX9_flow 6 = .ok (.if_icmp .le 13, 3) := by decide +kernel
theorem dX9_flow_9 : decode cX9_flow 9 = .ok (.new 58, 3) := by decide +kernel
theorem dX9_flow_12 : decode cX9_flow 12 = .ok (.dup, 1) := by decide +kernel
theorem dX9_flow_13 : decode cX9_flow 13 = .ok (.ldc 237, 2) := by decide +kernel
theorem dX9_flow_15 : decode cX9_flow 15 = .ok (.invokespecial 62, 3) := by decide +kernel
theorem dX9_flow_18 : decode cX9_flow 18 = .ok (.athrow, 1) := by decide +kernel
theorem dX9_flow_19 : decode cX9_flow 19 = .ok (.aload_n 0, 1) := by decide +kernel
theorem dX9_flow_20 : decode cX9_flow 20 = .ok (.getfield 43, 3) := by decide +kernel
theorem dX9_flow_23 : decode cX9_flow 23 = .ok (.aload_n 0, 1) := by decide +kernel
theorem dX9_flow_24 : decode cX9_flow 24 = .ok (.getfield 10, 3) := by decide +kernel
theorem dX9_flow_27 : decode cX9_flow 27 = .ok (.invokevirtual 224, 3) := by decide +kernel
theorem dX9_flow_30 : decode cX9_flow 30 = .ok (.aload_n 0, 1) := by decide +kernel
theorem dX9_flow_31 : decode cX9_flow 31 = .ok (.iload_n 1, 1) := by decide +kernel
theorem dX9_flow_32 : decode cX9_flow 32 = .ok (.aload_n 0, 1) := by decide +kernel
theorem dX9_flow_33 : decode cX9_flow 33 = .ok (.getfield 43, 3) := by decide +kernel
theorem dX9_flow_36 : decode cX9_flow 36 = .ok (.invokevirtual 239, 3) := by decide +kernel
theorem dX9_flow_39 : decode cX9_flow 39 = .ok (.ireturn, 1) := by decide +kernel
theorem dX9_count_0 : decode cX9_count 0 = .ok (.iload_n 1, 1) := by decide +kernel
theorem dX9_count_1 : decode cX9_count 1 = .ok (.ifCond .lt 9, 3) := by decide +kernel
theorem dX9_count_4 : decode cX9_count 4 = .ok (.iload_n 1, 1) := by decide +kernel
theorem dX9_count_5 : decode cX9_count 5 = .ok (.bipush 13, 2) := by decide +kernel
theorem dX9_count_7 : decode cX9_count 7 = .ok (.if_icmp .le 13, 3) := by decide +kernel
theorem dX9_count_10 : decode cX9_count 10 = .ok (.new 58, 3) := by decide +kernel
theorem dX9_count_13 : decode cX9_count 13 = .ok (.dup, 1) := by decide +kernel
theorem dX9_count_14 : decode cX9_count 14 = .ok (.ldc 243, 2) := by decide +kernel
theorem dX9_count_16 : decode cX9_count 16 = .ok (.invokespecial 62, 3) := by decide +kernel
theorem dX9_count_19 : decode cX9_count 19 = .ok (.athrow, 1) := by decide +kernel
theorem dX9_count_20 : decode cX9_count 20 = .ok (.aload_n 0, 1) := by decide +kernel
theorem dX9_count_21 : decode cX9_count 21 = .ok (.getfield 43, 3) := by decide +kernel
theorem dX9_count_24 : decode cX9_count 24 = .ok (.aload_n 0, 1) := by decide +kernel
theorem dX9_count_25 : decode cX9_count 25 = .ok (.getfield 10, 3) := by decide +kernel
theorem dX9_count_28 : decode cX9_count 28 = .ok (.invokevirtual 224, 3) := by decide +kernel
theorem dX9_count_31 : decode cX9_count 31 = .ok (.aload_n 0, 1) := by decide +kernel
theorem dX9_count_32 : decode cX9_count 32 = .ok (.iload_n 1, 1) := by decide +kernel
theorem dX9_count_33 : decode cX9_count 33 = .ok (.aload_n 0, 1) := by decide +kernel
theorem dX9_count_34 : decode cX9_count 34 = .ok (.getfield 43, 3) := by decide +kernel
theorem dX9_count_37 : decode cX9_count 37 = .ok (.invokevirtual 245, 3) := by decide +kernel
theorem dX9_count_40 : decode cX9_count 40 = .ok (.ireturn, 1) := by decide +kernel
theorem dX9_setting_0 : decode cX9_setting 0 = .ok (.iload_n 1, 1) := by decide +kernel
theorem dX9_setting_1 : decode cX9_setting 1 = .ok (.invokestatic 158, 3) := by decide +kernel
theorem dX9_setting_4 : decode cX9_setting 4 = .ok (.ifCond .eq 13, 3) := by decide +kernel
theorem dX9_setting_7 : decode cX9_setting 7 = .ok (.new 85, 3) := by decide +kernel
theorem dX9_setting_10 : decode cX9_setting 10 = .ok (.dup, 1) := by decide +kernel
theorem dX9_setting_11 : decode cX9_setting 11 = .ok (.ldc 161, 2) := by decide +kernel
theorem dX9_setting_13 : decode cX9_setting 13 = .ok (.invokespecial 89, 3) := by decide +kernel
theorem dX9_setting_16 : decode cX9_setting 16 = .ok (.athrow, 1) := by decide +kernel
theorem dX9_setting_17 : decode cX9_setting 17 = .ok (.aload_n 0, 1) := by decide +kernel
theorem dX9_setting_18 : decode cX9_setting 18 = .ok (.getfield 10, 3) := by decide +kernel
theorem dX9_setting_21 : decode cX9_setting 21 = .ok (.getfield 121, 3) := by decide +kernel
theorem dX9_setting_24 : decode cX9_setting 24 = .ok (.iload_n 1, 1) := by decide +kernel
theorem dX9_setting_25 : decode cX9_setting 25 = .ok (.invokestatic 95, 3) := by decide +kernel
theorem dX9_setting_28 : decode cX9_setting 28 = .ok (.ireturn, 1) := by decide +kernel
theorem dX9_ifRight_0 : decode cX9_ifRight 0 = .ok (.aload_n 0, 1) := by decide +kernel
theorem dX9_ifRight_1 : decode cX9_ifRight 1 = .ok (.iload_n 1, 1) := by decide +kernel
theorem dX9_ifRight_2 : decode cX9_ifRight 2 = .ok (.invokevirtual 82, 3) := by decide +kernel
theorem dX9_ifRight_5 : decode cX9_ifRight 5 = .ok (.ifCond .eq 13, 3) := by decide +kernel
theorem dX9_ifRight_8 : decode cX9_ifRight 8 = .ok (.new 85, 3) := by decide +kernel
theorem dX9_ifRight_11 : decode cX9_ifRight 11 = .ok (.dup, 1) := by decide +kernel
theorem dX9_ifRight_12 : decode cX9_ifRight 12 = .ok (.ldc 87, 2) := by decide +kernel
theorem dX9_ifRight_14 : decode cX9_ifRight 14 = .ok (.invokespecial 89, 3) := by decide +kernel
theorem dX9_ifRight_17 : decode cX9_ifRight 17 = .ok (.athrow, 1) := by decide +kernel
theorem dX9_ifRight_18 : decode cX9_ifRight 18 = .ok (.aload_n 0, 1) := by decide +kernel
theorem dX9_ifRight_19 : decode cX9_ifRight 19 = .ok (.iload_n 1, 1) := by decide +kernel
theorem dX9_ifRight_20 : decode cX9_ifRight 20 = .ok (.invokevirtual 248, 3) := by decide +kernel
theorem dX9_ifRight_23 : decode cX9_ifRight 23 = .ok (.ireturn, 1) := by decide +kernel
theorem dX9_worst_0 : decode cX9_worst 0 = .ok (.aload_n 0, 1) := by decide +kernel
theorem dX9_worst_1 : decode cX9_worst 1 = .ok (.getfield 43, 3) := by decide +kernel
theorem dX9_worst_4 : decode cX9_worst 4 = .ok (.aload_n 0, 1) := by decide +kernel
theorem dX9_worst_5 : decode cX9_worst 5 = .ok (.getfield 10, 3) := by decide +kernel
theorem dX9_worst_8 : decode cX9_worst 8 = .ok (.invokevirtual 224, 3) := by decide +kernel
theorem dX9_worst_11 : decode cX9_worst 11 = .ok (.aload_n 0, 1) := by decide +kernel
theorem dX9_worst_12 : decode cX9_worst 12 = .ok (.aload_n 0, 1) := by decide +kernel
theorem dX9_worst_13 : decode cX9_worst 13 = .ok (.getfield 43, 3) := by decide +kernel
theorem dX9_worst_16 : decode cX9_worst 16 = .ok (.invokevirtual 251, 3) := by decide +kernel
theorem dX9_worst_19 : decode cX9_worst 19 = .ok (.ireturn, 1) := by decide +kernel
theorem dX9_ifRake_0 : decode cX9_ifRake 0 = .ok (.iload_n 1, 1) := by decide +kernel
theorem dX9_ifRake_1 : decode cX9_ifRake 1 = .ok (.invokestatic 54, 3) := by decide +kernel
theorem dX9_ifRake_4 : decode cX9_ifRake 4 = .ok (.ifCond .eq 13, 3) := by decide +kernel
theorem dX9_ifRake_7 : decode cX9_ifRake 7 = .ok (.new 58, 3) := by decide +kernel
theorem dX9_ifRake_10 : decode cX9_ifRake 10 = .ok (.dup, 1) := by decide +kernel
theorem dX9_ifRake_11 : decode cX9_ifRake 11 = .ok (.ldc 60, 2) := by decide +kernel
theorem dX9_ifRake_13 : decode cX9_ifRake 13 = .ok (.invokespecial 62, 3) := by decide +kernel
theorem dX9_ifRake_16 : decode cX9_ifRake 16 = .ok (.athrow, 1) := by decide +kernel
theorem dX9_ifRake_17 : decode cX9_ifRake 17 = .ok (.aload_n 0, 1) := by decide +kernel
theorem dX9_ifRake_18 : decode cX9_ifRake 18 = .ok (.getfield 10, 3) := by decide +kernel
theorem dX9_ifRake_21 : decode cX9_ifRake 21 = .ok (.iload_n 1, 1) := by decide +kernel
theorem dX9_ifRake_22 : decode cX9_ifRake 22 = .ok (.invokestatic 255, 3) := by decide +kernel
theorem dX9_ifRake_25 : decode cX9_ifRake 25 = .ok (.ireturn, 1) := by decide +kernel
theorem dX9_fineRake_0 : decode cX9_fineRake 0 = .ok (.iload_n 1, 1) := by decide +kernel
theorem dX9_fineRake_1 : decode cX9_fineRake 1 = .ok (.ifCond .lt 10, 3) := by decide +kernel
theorem dX9_fineRake_4 : decode cX9_fineRake 4 = .ok (.iload_n 1, 1) := by decide +kernel
theorem dX9_fineRake_5 : decode cX9_fineRake 5 = .ok (.ldc_w 258, 3) := by decide +kernel
theorem dX9_fineRake_8 : decode cX9_fineRake 8 = .ok (.if_icmp .le 14, 3) := by decide +kernel
theorem dX9_fineRake_11 : decode cX9_fineRake 11 = .ok (.new 58, 3) := by decide +kernel
theorem dX9_fineRake_14 : decode cX9_fineRake 14 = .ok (.dup, 1) := by decide +kernel
theorem dX9_fineRake_15 : decode cX9_fineRake 15 = .ok (.ldc_w 259, 3) := by decide +kernel
theorem dX9_fineRake_18 : decode cX9_fineRake 18 = .ok (.invokespecial 62, 3) := by decide +kernel
theorem dX9_fineRake_21 : decode cX9_fineRake 21 = .ok (.athrow, 1) := by decide +kernel
theorem dX9_fineRake_22 : decode cX9_fineRake 22 = .ok (.aload_n 0, 1) := by decide +kernel
theorem dX9_fineRake_23 : decode cX9_fineRake 23 = .ok (.iload_n 1, 1) := by decide +kernel
theorem dX9_fineRake_24 : decode cX9_fineRake 24 = .ok (.invokevirtual 261, 3) := by decide +kernel
theorem dX9_fineRake_27 : decode cX9_fineRake 27 = .ok (.ireturn, 1) := by decide +kernel
theorem dX9_evenness_0 : decode cX9_evenness 0 = .ok (.aload_n 0, 1) := by decide +kernel
theorem dX9_evenness_1 : decode cX9_evenness 1 = .ok (.getfield 43, 3) := by decide +kernel
theorem dX9_evenness_4 : decode cX9_evenness 4 = .ok (.aload_n 0, 1) := by decide +kernel
theorem dX9_evenness_5 : decode cX9_evenness 5 = .ok (.getfield 10, 3) := by decide +kernel
theorem dX9_evenness_8 : decode cX9_evenness 8 = .ok (.invokevirtual 224, 3) := by decide +kernel
theorem dX9_evenness_11 : decode cX9_evenness 11 = .ok (.aload_n 0, 1) := by decide +kernel
theorem dX9_evenness_12 : decode cX9_evenness 12 = .ok (.getfield 43, 3) := by decide +kernel
theorem dX9_evenness_15 : decode cX9_evenness 15 = .ok (.invokevirtual 264, 3) := by decide +kernel
theorem dX9_evenness_18 : decode cX9_evenness 18 = .ok (.dreturn, 1) := by decide +kernel
theorem dX9_digest_0 : decode cX9_digest 0 = .ok (.aload_n 0, 1) := by decide +kernel
theorem dX9_digest_1 : decode cX9_digest 1 = .ok (.getfield 43, 3) := by decide +kernel
theorem dX9_digest_4 : decode cX9_digest 4 = .ok (.aload_n 0, 1) := by decide +kernel
theorem dX9_digest_5 : decode cX9_digest 5 = .ok (.getfield 10, 3) := by decide +kernel
theorem dX9_digest_8 : decode cX9_digest 8 = .ok (.invokevirtual 224, 3) := by decide +kernel
theorem dX9_digest_11 : decode cX9_digest 11 = .ok (.ldc2_w 268, 3) := by decide +kernel
theorem dX9_digest_14 : decode cX9_digest 14 = .ok (.lstore_n 1, 1) := by decide +kernel
theorem dX9_digest_15 : decode cX9_digest 15 = .ok (.iconst 0, 1) := by decide +kernel
theorem dX9_digest_16 : decode cX9_digest 16 = .ok (.istore_n 3, 1) := by decide +kernel
theorem dX9_digest_17 : decode cX9_digest 17 = .ok (.iload_n 3, 1) := by decide +kernel
theorem dX9_digest_18 : decode cX9_digest 18 = .ok (.bipush 13, 2) := by decide +kernel
theorem dX9_digest_20 : decode cX9_digest 20 = .ok (.if_icmp .gt 24, 3) := by decide +kernel
theorem dX9_digest_23 : decode cX9_digest 23 = .ok (.lload_n 1, 1) := by decide +kernel
theorem dX9_digest_24 : decode cX9_digest 24 = .ok (.aload_n 0, 1) := by decide +kernel
theorem dX9_digest_25 : decode cX9_digest 25 = .ok (.iload_n 3, 1) := by decide +kernel
theorem dX9_digest_26 : decode cX9_digest 26 = .ok (.aload_n 0, 1) := by decide +kernel
theorem dX9_digest_27 : decode cX9_digest 27 = .ok (.getfield 43, 3) := by decide +kernel
theorem dX9_digest_30 : decode cX9_digest 30 = .ok (.invokevirtual 245, 3) := by decide +kernel
theorem dX9_digest_33 : decode cX9_digest 33 = .ok (.i2l, 1) := by decide +kernel
theorem dX9_digest_34 : decode cX9_digest 34 = .ok (.invokestatic 270, 3) := by decide +kernel
theorem dX9_digest_37 : decode cX9_digest 37 = .ok (.lstore_n 1, 1) := by decide +kernel
theorem dX9_digest_38 : decode cX9_digest 38 = .ok (.iinc 3 1, 3) := by decide +kernel
theorem dX9_digest_41 : decode cX9_digest 41 = .ok (.goto (-24), 3) := by decide +kernel
theorem dX9_digest_44 : decode cX9_digest 44 = .ok (.iconst 0, 1) := by decide +kernel
theorem dX9_digest_45 : decode cX9_digest 45 = .ok (.istore_n 3, 1) := by decide +kernel
theorem dX9_digest_46 : decode cX9_digest 46 = .ok (.iload_n 3, 1) := by decide +kernel
theorem dX9_digest_47 : decode cX9_digest 47 = .ok (.iconst 5, 1) := by decide +kernel
theorem dX9_digest_48 : decode cX9_digest 48 = .ok (.if_icmp .ge 26, 3) := by decide +kernel
theorem dX9_digest_51 : decode cX9_digest 51 = .ok (.lload_n 1, 1) := by decide +kernel
theorem dX9_digest_52 : decode cX9_digest 52 = .ok (.aload_n 0, 1) := by decide +kernel
theorem dX9_digest_53 : decode cX9_digest 53 = .ok (.getfield 10, 3) := by decide +kernel
theorem dX9_digest_56 : decode cX9_digest 56 = .ok (.getfield 121, 3) := by decide +kernel
theorem dX9_digest_59 : decode cX9_digest 59 = .ok (.iload_n 3, 1) := by decide +kernel
theorem dX9_digest_60 : decode cX9_digest 60 = .ok (.invokestatic 95, 3) := by decide +kernel
theorem dX9_digest_63 : decode cX9_digest 63 = .ok (.i2l, 1) := by decide +kernel
theorem dX9_digest_64 : decode cX9_digest 64 = .ok (.invokestatic 270, 3) := by decide +kernel
theorem dX9_digest_67 : decode cX9_digest 67 = .ok (.lstore_n 1, 1) := by decide +kernel
theorem dX9_digest_68 : decode cX9_digest 68 = .ok (.iinc 3 1, 3) := by decide +kernel
theorem dX9_digest_71 : decode cX9_digest 71 = .ok (.goto (-25), 3) := by decide +kernel
theorem dX9_digest_74 : decode cX9_digest 74 = .ok (.aload_n 0, 1) := by decide +kernel
theorem dX9_digest_75 : decode cX9_digest 75 = .ok (.lload_n 1, 1) := by decide +kernel
theorem dX9_digest_76 : decode cX9_digest 76 = .ok (.aload_n 0, 1) := by decide +kernel
theorem dX9_digest_77 : decode cX9_digest 77 = .ok (.getfield 43, 3) := by decide +kernel
theorem dX9_digest_80 : decode cX9_digest 80 = .ok (.invokevirtual 274, 3) := by decide +kernel
theorem dX9_digest_83 : decode cX9_digest 83 = .ok (.lstore_n 1, 1) := by decide +kernel
theorem dX9_digest_84 : decode cX9_digest 84 = .ok (.aload_n 0, 1) := by decide +kernel
theorem dX9_digest_85 : decode cX9_digest 85 = .ok (.lload_n 1, 1) := by decide +kernel
theorem dX9_digest_86 : decode cX9_digest 86 = .ok (.invokevirtual 278, 3) := by decide +kernel
theorem dX9_digest_89 : decode cX9_digest 89 = .ok (.lstore_n 1, 1) := by decide +kernel
theorem dX9_digest_90 : decode cX9_digest 90 = .ok (.iconst 0, 1) := by decide +kernel
theorem dX9_digest_91 : decode cX9_digest 91 = .ok (.istore_n 3, 1) := by decide +kernel
theorem dX9_digest_92 : decode cX9_digest 92 = .ok (.iload_n 3, 1) := by decide +kernel
theorem dX9_digest_93 : decode cX9_digest 93 = .ok (.iconst 3, 1) := by decide +kernel
theorem dX9_digest_94 : decode cX9_digest 94 = .ok (.if_icmp .gt 24, 3) := by decide +kernel
theorem dX9_digest_97 : decode cX9_digest 97 = .ok (.lload_n 1, 1) := by decide +kernel
theorem dX9_digest_98 : decode cX9_digest 98 = .ok (.aload_n 0, 1) := by decide +kernel
theorem dX9_digest_99 : decode cX9_digest 99 = .ok (.iload_n 3, 1) := by decide +kernel
theorem dX9_digest_100 : decode cX9_digest 100 = .ok (.aload_n 0, 1) := by decide +kernel
theorem dX9_digest_101 : decode cX9_digest 101 = .ok (.getfield 43, 3) := by decide +kernel
theorem dX9_digest_104 : decode cX9_digest 104 = .ok (.invokevirtual 239, 3) := by decide +kernel
theorem dX9_digest_107 : decode cX9_digest 107 = .ok (.i2l, 1) := by decide +kernel
theorem dX9_digest_108 : decode cX9_digest 108 = .ok (.invokestatic 270, 3) := by decide +kernel
theorem dX9_digest_111 : decode cX9_digest 111 = .ok (.lstore_n 1, 1) := by decide +kernel
theorem dX9_digest_112 : decode cX9_digest 112 = .ok (.iinc 3 1, 3) := by decide +kernel
theorem dX9_digest_115 : decode cX9_digest 115 = .ok (.goto (-23), 3) := by decide +kernel
theorem dX9_digest_118 : decode cX9_digest 118 = .ok (.lload_n 1, 1) := by decide +kernel
theorem dX9_digest_119 : decode cX9_digest 119 = .ok (.aload_n 0, 1) := by decide +kernel
theorem dX9_digest_120 : decode cX9_digest 120 = .ok (.aload_n 0, 1) := by decide +kernel
theorem dX9_digest_121 : decode cX9_digest 121 = .ok (.getfield 43, 3) := by decide +kernel
theorem dX9_digest_124 : decode cX9_digest 124 = .ok (.invokevirtual 251, 3) := by decide +kernel
theorem dX9_digest_127 : decode cX9_digest 127 = .ok (.i2l, 1) := by decide +kernel
theorem dX9_digest_128 : decode cX9_digest 128 = .ok (.invokestatic 270, 3) := by decide +kernel
theorem dX9_digest_131 : decode cX9_digest 131 = .ok (.lstore_n 1, 1) := by decide +kernel
theorem dX9_digest_132 : decode cX9_digest 132 = .ok (.iconst 2, 1) := by decide +kernel
theorem dX9_digest_133 : decode cX9_digest 133 = .ok (.istore_n 3, 1) := by decide +kernel
theorem dX9_digest_134 : decode cX9_digest 134 = .ok (.iload_n 3, 1) := by decide +kernel
theorem dX9_digest_135 : decode cX9_digest 135 = .ok (.bipush 8, 2) := by decide +kernel
theorem dX9_digest_137 : decode cX9_digest 137 = .ok (.if_icmp .gt 23, 3) := by decide +kernel
theorem dX9_digest_140 : decode cX9_digest 140 = .ok (.lload_n 1, 1) := by decide +kernel
theorem dX9_digest_141 : decode cX9_digest 141 = .ok (.aload_n 0, 1) := by decide +kernel
theorem dX9_digest_142 : decode cX9_digest 142 = .ok (.getfield 10, 3) := by decide +kernel
theorem dX9_digest_145 : decode cX9_digest 145 = .ok (.iload_n 3, 1) := by decide +kernel
theorem dX9_digest_146 : decode cX9_digest 146 = .ok (.invokestatic 255, 3) := by decide +kernel
theorem dX9_digest_149 : decode cX9_digest 149 = .ok (.i2l, 1) := by decide +kernel
theorem dX9_digest_150 : decode cX9_digest 150 = .ok (.invokestatic 270, 3) := by decide +kernel
theorem dX9_digest_153 : decode cX9_digest 153 = .ok (.lstore_n 1, 1) := by decide +kernel
theorem dX9_digest_154 : decode cX9_digest 154 = .ok (.iinc 3 1, 3) := by decide +kernel
theorem dX9_digest_157 : decode cX9_digest 157 = .ok (.goto (-23), 3) := by decide +kernel
theorem dX9_digest_160 : decode cX9_digest 160 = .ok (.lload_n 1, 1) := by decide +kernel
theorem dX9_digest_161 : decode cX9_digest 161 = .ok (.aload_n 0, 1) := by decide +kernel
theorem dX9_digest_162 : decode cX9_digest 162 = .ok (.sipush 1000, 3) := by decide +kernel
theorem dX9_digest_165 : decode cX9_digest 165 = .ok (.invokevirtual 261, 3) := by decide +kernel
theorem dX9_digest_168 : decode cX9_digest 168 = .ok (.i2l, 1) := by decide +kernel
theorem dX9_digest_169 : decode cX9_digest 169 = .ok (.invokestatic 270, 3) := by decide +kernel
theorem dX9_digest_172 : decode cX9_digest 172 = .ok (.lstore_n 1, 1) := by decide +kernel
theorem dX9_digest_173 : decode cX9_digest 173 = .ok (.lload_n 1, 1) := by decide +kernel
theorem dX9_digest_174 : decode cX9_digest 174 = .ok (.aload_n 0, 1) := by decide +kernel
theorem dX9_digest_175 : decode cX9_digest 175 = .ok (.getfield 43, 3) := by decide +kernel
theorem dX9_digest_178 : decode cX9_digest 178 = .ok (.invokevirtual 264, 3) := by decide +kernel
theorem dX9_digest_181 : decode cX9_digest 181 = .ok (.invokestatic 282, 3) := by decide +kernel
theorem dX9_digest_184 : decode cX9_digest 184 = .ok (.invokestatic 270, 3) := by decide +kernel
theorem dX9_digest_187 : decode cX9_digest 187 = .ok (.lstore_n 1, 1) := by decide +kernel
theorem dX9_digest_188 : decode cX9_digest 188 = .ok (.lload_n 1, 1) := by decide +kernel
theorem dX9_digest_189 : decode cX9_digest 189 = .ok (.aload_n 0, 1) := by decide +kernel
theorem dX9_digest_190 : decode cX9_digest 190 = .ok (.getfield 26, 3) := by decide +kernel
theorem dX9_digest_193 : decode cX9_digest 193 = .ok (.getfield 210, 3) := by decide +kernel
theorem dX9_digest_196 : decode cX9_digest 196 = .ok (.ifCond .eq 7, 3) := by decide +kernel
theorem dX9_digest_199 : decode cX9_digest 199 = .ok (.lconst 1, 1) := by decide +kernel
theorem dX9_digest_200 : decode cX9_digest 200 = .ok (.goto 4, 3) := by decide +kernel
theorem dX9_digest_203 : decode cX9_digest 203 = .ok (.lconst 0, 1) := by decide +kernel
theorem dX9_digest_204 : decode cX9_digest 204 = .ok (.invokestatic 270, 3) := by decide +kernel
theorem dX9_digest_207 : decode cX9_digest 207 = .ok (.lstore_n 1, 1) := by decide +kernel
theorem dX9_digest_208 : decode cX9_digest 208 = .ok (.lload_n 1, 1) := by decide +kernel
theorem dX9_digest_209 : decode cX9_digest 209 = .ok (.aload_n 0, 1) := by decide +kernel
theorem dX9_digest_210 : decode cX9_digest 210 = .ok (.getfield 30, 3) := by decide +kernel
theorem dX9_digest_213 : decode cX9_digest 213 = .ok (.getfield 210, 3) := by decide +kernel
theorem dX9_digest_216 : decode cX9_digest 216 = .ok (.ifCond .eq 7, 3) := by decide +kernel
theorem dX9_digest_219 : decode cX9_digest 219 = .ok (.lconst 1, 1) := by decide +kernel
theorem dX9_digest_220 : decode cX9_digest 220 = .ok (.goto 4, 3) := by decide +kernel
theorem dX9_digest_223 : decode cX9_digest 223 = .ok (.lconst 0, 1) := by decide +kernel
theorem dX9_digest_224 : decode cX9_digest 224 = .ok (.invokestatic 270, 3) := by decide +kernel
theorem dX9_digest_227 : decode cX9_digest 227 = .ok (.lstore_n 1, 1) := by decide +kernel
theorem dX9_digest_228 : decode cX9_digest 228 = .ok (.aload_n 0, 1) := by decide +kernel
theorem dX9_digest_229 : decode cX9_digest 229 = .ok (.lload_n 1, 1) := by decide +kernel
theorem dX9_digest_230 : decode cX9_digest 230 = .ok (.invokevirtual 288, 3) := by decide +kernel
theorem dX9_digest_233 : decode cX9_digest 233 = .ok (.lreturn, 1) := by decide +kernel
theorem dX9_isNoRake_0 : decode cX9_isNoRake 0 = .ok (.iload_n 0, 1) := by decide +kernel
theorem dX9_isNoRake_1 : decode cX9_isNoRake 1 = .ok (.iconst 2, 1) := by decide +kernel
theorem dX9_isNoRake_2 : decode cX9_isNoRake 2 = .ok (.if_icmp .lt 9, 3) := by decide +kernel
theorem dX9_isNoRake_5 : decode cX9_isNoRake 5 = .ok (.iload_n 0, 1) := by decide +kernel
theorem dX9_isNoRake_6 : decode cX9_isNoRake 6 = .ok (.bipush 8, 2) := by decide +kernel
theorem dX9_isNoRake_8 : decode cX9_isNoRake 8 = .ok (.if_icmp .le 7, 3) := by decide +kernel
theorem dX9_isNoRake_11 : decode cX9_isNoRake 11 = .ok (.iconst 1, 1) := by decide +kernel
theorem dX9_isNoRake_12 : decode cX9_isNoRake 12 = .ok (.goto 4, 3) := by decide +kernel
theorem dX9_isNoRake_15 : decode cX9_isNoRake 15 = .ok (.iconst 0, 1) := by decide +kernel
theorem dX9_isNoRake_16 : decode cX9_isNoRake 16 = .ok (.ireturn, 1) := by decide +kernel
theorem dX9_isNoSetting_0 : decode cX9_isNoSetting 0 = .ok (.iload_n 0, 1) := by decide +kernel
theorem dX9_isNoSetting_1 : decode cX9_isNoSetting 1 = .ok (.ifCond .lt 8, 3) := by decide +kernel
theorem dX9_isNoSetting_4 : decode cX9_isNoSetting 4 = .ok (.iload_n 0, 1) := by decide +kernel
theorem dX9_isNoSetting_5 : decode cX9_isNoSetting 5 = .ok (.iconst 5, 1) := by decide +kernel
theorem dX9_isNoSetting_6 : decode cX9_isNoSetting 6 = .ok (.if_icmp .lt 7, 3) := by decide +kernel
theorem dX9_isNoSetting_9 : decode cX9_isNoSetting 9 = .ok (.iconst 1, 1) := by decide +kernel
theorem dX9_isNoSetting_10 : decode cX9_isNoSetting 10 = .ok (.goto 4, 3) := by decide +kernel
theorem dX9_isNoSetting_13 : decode cX9_isNoSetting 13 = .ok (.iconst 0, 1) := by decide +kernel
theorem dX9_isNoSetting_14 : decode cX9_isNoSetting 14 = .ok (.ireturn, 1) := by decide +kernel
theorem dX9_isNoSlot_0 : decode cX9_isNoSlot 0 = .ok (.iload_n 0, 1) := by decide +kernel
theorem dX9_isNoSlot_1 : decode cX9_isNoSlot 1 = .ok (.ifCond .lt 8, 3) := by decide +kernel
theorem dX9_isNoSlot_4 : decode cX9_isNoSlot 4 = .ok (.iload_n 0, 1) := by decide +kernel
theorem dX9_isNoSlot_5 : decode cX9_isNoSlot 5 = .ok (.iconst 1, 1) := by decide +kernel
theorem dX9_isNoSlot_6 : decode cX9_isNoSlot 6 = .ok (.if_icmp .le 7, 3) := by decide +kernel
theorem dX9_isNoSlot_9 : decode cX9_isNoSlot 9 = .ok (.iconst 1, 1) := by decide +kernel
theorem dX9_isNoSlot_10 : decode cX9_isNoSlot 10 = .ok (.goto 4, 3) := by decide +kernel
theorem dX9_isNoSlot_13 : decode cX9_isNoSlot 13 = .ok (.iconst 0, 1) := by decide +kernel
theorem dX9_isNoSlot_14 : decode cX9_isNoSlot 14 = .ok (.ireturn, 1) := by decide +kernel
theorem dX9_isNoHole_0 : decode cX9_isNoHole 0 = .ok (.iload_n 1, 1) := by decide +kernel
theorem dX9_isNoHole_1 : decode cX9_isNoHole 1 = .ok (.ifCond .lt 14, 3) := by decide +kernel
theorem dX9_isNoHole_4 : decode cX9_isNoHole 4 = .ok (.iload_n 1, 1) := by decide +kernel
theorem dX9_isNoHole_5 : decode cX9_isNoHole 5 = .ok (.aload_n 0, 1) := by decide +kernel
theorem dX9_isNoHole_6 : decode cX9_isNoHole 6 = .ok (.getfield 10, 3) := by decide +kernel
theorem dX9_isNoHole_9 : decode cX9_isNoHole 9 = .ok (.getfield 69, 3) := by decide +kernel
theorem dX9_isNoHole_12 : decode cX9_isNoHole 12 = .ok (.if_icmp .lt 7, 3) := by decide +kernel
theorem dX9_isNoHole_15 : decode cX9_isNoHole 15 = .ok (.iconst 1, 1) := by decide +kernel
theorem dX9_isNoHole_16 : decode cX9_isNoHole 16 = .ok (.goto 4, 3) := by decide +kernel
theorem dX9_isNoHole_19 : decode cX9_isNoHole 19 = .ok (.iconst 0, 1) := by decide +kernel
theorem dX9_isNoHole_20 : decode cX9_isNoHole 20 = .ok (.ireturn, 1) := by decide +kernel
theorem dX9_isNoReading_0 : decode cX9_isNoReading 0 = .ok (.iload_n 1, 1) := by decide +kernel
theorem dX9_isNoReading_1 : decode cX9_isNoReading 1 = .ok (.ifCond .lt 17, 3) := by decide +kernel
theorem dX9_isNoReading_4 : decode cX9_isNoReading 4 = .ok (.iload_n 1, 1) := by decide +kernel
theorem dX9_isNoReading_5 : decode cX9_isNoReading 5 = .ok (.aload_n 0, 1) := by decide +kernel
theorem dX9_isNoReading_6 : decode cX9_isNoReading 6 = .ok (.getfield 10, 3) := by decide +kernel
theorem dX9_isNoReading_9 : decode cX9_isNoReading 9 = .ok (.getfield 141, 3) := by decide +kernel
theorem dX9_isNoReading_12 : decode cX9_isNoReading 12 = .ok (.getfield 145, 3) := by decide +kernel
theorem dX9_isNoReading_15 : decode cX9_isNoReading 15 = .ok (.if_icmp .lt 7, 3) := by decide +kernel
theorem dX9_isNoReading_18 : decode cX9_isNoReading 18 = .ok (.iconst 1, 1) := by decide +kernel
theorem dX9_isNoReading_19 : decode cX9_isNoReading 19 = .ok (.goto 4, 3) := by decide +kernel
theorem dX9_isNoReading_22 : decode cX9_isNoReading 22 = .ok (.iconst 0, 1) := by decide +kernel
theorem dX9_isNoReading_23 : decode cX9_isNoReading 23 = .ok (.ireturn, 1) := by decide +kernel
theorem dX9_slotOf_0 : decode cX9_slotOf 0 = .ok (.iload_n 1, 1) := by decide +kernel
theorem dX9_slotOf_1 : decode cX9_slotOf 1 = .ok (.ifCond .ne 10, 3) := by decide +kernel
theorem dX9_slotOf_4 : decode cX9_slotOf 4 = .ok (.aload_n 0, 1) := by decide +kernel
theorem dX9_slotOf_5 : decode cX9_slotOf 5 = .ok (.getfield 26, 3) := by decide +kernel
theorem dX9_slotOf_8 : decode cX9_slotOf 8 = .ok (.goto 7, 3) := by decide +kernel
theorem dX9_slotOf_11 : decode cX9_slotOf 11 = .ok (.aload_n 0, 1) := by decide +kernel
theorem dX9_slotOf_12 : decode cX9_slotOf 12 = .ok (.getfield 30, 3) := by decide +kernel
theorem dX9_slotOf_15 : decode cX9_slotOf 15 = .ok (.areturn, 1) := by decide +kernel
theorem dX9_holeValue_0 : decode cX9_holeValue 0 = .ok (.iload_n 2, 1) := by decide +kernel
theorem dX9_holeValue_1 : decode cX9_holeValue 1 = .ok (.tableswitch 214 0 10 #[59, 78, 90, 102, 114, 130, 139, 156, 176, 185, 205], 59) := by decide +kernel
theorem dX9_holeValue_60 : decode cX9_holeValue 60 = .ok (.aload_n 0, 1) := by decide +kernel
theorem dX9_holeValue_61 : decode cX9_holeValue 61 = .ok (.getfield 10, 3) := by decide +kernel
theorem dX9_holeValue_64 : decode cX9_holeValue 64 = .ok (.getfield 79, 3) := by decide +kernel
theorem dX9_holeValue_67 : decode cX9_holeValue 67 = .ok (.iload_n 1, 1) := by decide +kernel
theorem dX9_holeValue_68 : decode cX9_holeValue 68 = .ok (.aload_n 0, 1) := by decide +kernel
theorem dX9_holeValue_69 : decode cX9_holeValue 69 = .ok (.getfield 10, 3) := by decide +kernel
theorem dX9_holeValue_72 : decode cX9_holeValue 72 = .ok (.getfield 69, 3) := by decide +kernel
theorem dX9_holeValue_75 : decode cX9_holeValue 75 = .ok (.invokestatic 291, 3) := by decide +kernel
theorem dX9_holeValue_78 : decode cX9_holeValue 78 = .ok (.ireturn, 1) := by decide +kernel
theorem dX9_holeValue_79 : decode cX9_holeValue 79 = .ok (.aload_n 0, 1) := by decide +kernel
theorem dX9_holeValue_80 : decode cX9_holeValue 80 = .ok (.getfield 10, 3) := by decide +kernel
theorem dX9_holeValue_83 : decode cX9_holeValue 83 = .ok (.getfield 92, 3) := by decide +kernel
theorem dX9_holeValue_86 : decode cX9_holeValue 86 = .ok (.iload_n 1, 1) := by decide +kernel
theorem dX9_holeValue_87 : decode cX9_holeValue 87 = .ok (.invokestatic 95, 3) := by decide +kernel
theorem dX9_holeValue_90 : decode cX9_holeValue 90 = .ok (.ireturn, 1) := by decide +kernel
theorem dX9_holeValue_91 : decode cX9_holeValue 91 = .ok (.aload_n 0, 1) := by decide +kernel
theorem dX9_holeValue_92 : decode cX9_holeValue 92 = .ok (.getfield 10, 3) := by decide +kernel
theorem dX9_holeValue_95 : decode cX9_holeValue 95 = .ok (.getfield 107, 3) := by decide +kernel
theorem dX9_holeValue_98 : decode cX9_holeValue 98 = .ok (.iload_n 1, 1) := by decide +kernel
theorem dX9_holeValue_99 : decode cX9_holeValue 99 = .ok (.invokestatic 95, 3) := by decide +kernel
theorem dX9_holeValue_102 : decode cX9_holeValue 102 = .ok (.ireturn, 1) := by decide +kernel
theorem dX9_holeValue_103 : decode cX9_holeValue 103 = .ok (.aload_n 0, 1) := by decide +kernel
theorem dX9_holeValue_104 : decode cX9_holeValue 104 = .ok (.getfield 10, 3) := by decide +kernel
theorem dX9_holeValue_107 : decode cX9_holeValue 107 = .ok (.getfield 124, 3) := by decide +kernel
theorem dX9_holeValue_110 : decode cX9_holeValue 110 = .ok (.iload_n 1, 1) := by decide +kernel
theorem dX9_holeValue_111 : decode cX9_holeValue 111 = .ok (.invokestatic 95, 3) := by decide +kernel
theorem dX9_holeValue_114 : decode cX9_holeValue 114 = .ok (.ireturn, 1) := by decide +kernel
theorem dX9_holeValue_115 : decode cX9_holeValue 115 = .ok (.aload_n 0, 1) := by decide +kernel
theorem dX9_holeValue_116 : decode cX9_holeValue 116 = .ok (.getfield 10, 3) := by decide +kernel
theorem dX9_holeValue_119 : decode cX9_holeValue 119 = .ok (.iload_n 1, 1) := by decide +kernel
theorem dX9_holeValue_120 : decode cX9_holeValue 120 = .ok (.aload_n 0, 1) := by decide +kernel
theorem dX9_holeValue_121 : decode cX9_holeValue 121 = .ok (.getfield 10, 3) := by decide +kernel
theorem dX9_holeValue_124 : decode cX9_holeValue 124 = .ok (.getfield 69, 3) := by decide +kernel
theorem dX9_holeValue_127 : decode cX9_holeValue 127 = .ok (.invokestatic 295, 3) := by decide +kernel
theorem dX9_holeValue_130 : decode cX9_holeValue 130 = .ok (.ireturn, 1) := by decide +kernel
theorem dX9_holeValue_131 : decode cX9_holeValue 131 = .ok (.aload_n 0, 1) := by decide +kernel
theorem dX9_holeValue_132 : decode cX9_holeValue 132 = .ok (.getfield 10, 3) := by decide +kernel
theorem dX9_holeValue_135 : decode cX9_holeValue 135 = .ok (.iload_n 1, 1) := by decide +kernel
theorem dX9_holeValue_136 : decode cX9_holeValue 136 = .ok (.invokestatic 127, 3) := by decide +kernel
theorem dX9_holeValue_139 : decode cX9_holeValue 139 = .ok (.ireturn, 1) := by decide +kernel
theorem dX9_holeValue_140 : decode cX9_holeValue 140 = .ok (.aload_n 0, 1) := by decide +kernel
theorem dX9_holeValue_141 : decode cX9_holeValue 141 = .ok (.getfield 10, 3) := by decide +kernel
theorem dX9_holeValue_144 : decode cX9_holeValue 144 = .ok (.iload_n 1, 1) := by decide +kernel
theorem dX9_holeValue_145 : decode cX9_holeValue 145 = .ok (.aload_n 0, 1) := by decide +kernel
theorem dX9_holeValue_146 : decode cX9_holeValue 146 = .ok (.getfield 10, 3) := by decide +kernel
theorem dX9_holeValue_149 : decode cX9_holeValue 149 = .ok (.iload_n 1, 1) := by decide +kernel
theorem dX9_holeValue_150 : decode cX9_holeValue 150 = .ok (.invokestatic 127, 3) := by decide +kernel
theorem dX9_holeValue_153 : decode cX9_holeValue 153 = .ok (.invokestatic 133, 3) := by decide +kernel
theorem dX9_holeValue_156 : decode cX9_holeValue 156 = .ok (.ireturn, 1) := by decide +kernel
theorem dX9_holeValue_157 : decode cX9_holeValue 157 = .ok (.aload_n 3, 1) := by decide +kernel
theorem dX9_holeValue_158 : decode cX9_holeValue 158 = .ok (.getfield 298, 3) := by decide +kernel
theorem dX9_holeValue_161 : decode cX9_holeValue 161 = .ok (.ifCond .ne 7, 3) := by decide +kernel
theorem dX9_holeValue_164 : decode cX9_holeValue 164 = .ok (.iconst (-1), 1) := by decide +kernel
theorem dX9_holeValue_165 : decode cX9_holeValue 165 = .ok (.goto 11, 3) := by decide +kernel
theorem dX9_holeValue_168 : decode cX9_holeValue 168 = .ok (.aload_n 3, 1) := by decide +kernel
theorem dX9_holeValue_169 : decode cX9_holeValue 169 = .ok (.getfield 301, 3) := by decide +kernel
theorem dX9_holeValue_172 : decode cX9_holeValue 172 = .ok (.iload_n 1, 1) := by decide +kernel
theorem dX9_holeValue_173 : decode cX9_holeValue 173 = .ok (.invokestatic 95, 3) := by decide +kernel
theorem dX9_holeValue_176 : decode cX9_holeValue 176 = .ok (.ireturn, 1) := by decide +kernel
theorem dX9_holeValue_177 : decode cX9_holeValue 177 = .ok (.aload_n 3, 1) := by decide +kernel
theorem dX9_holeValue_178 : decode cX9_holeValue 178 = .ok (.getfield 304, 3) := by decide +kernel
theorem dX9_holeValue_181 : decode cX9_holeValue 181 = .ok (.iload_n 1, 1) := by decide +kernel
theorem dX9_holeValue_182 : decode cX9_holeValue 182 = .ok (.invokestatic 95, 3) := by decide +kernel
theorem dX9_holeValue_185 : decode cX9_holeValue 185 = .ok (.ireturn, 1) := by decide +kernel
theorem dX9_holeValue_186 : decode cX9_holeValue 186 = .ok (.aload_n 3, 1) := by decide +kernel
theorem dX9_holeValue_187 : decode cX9_holeValue 187 = .ok (.getfield 307, 3) := by decide +kernel
theorem dX9_holeValue_190 : decode cX9_holeValue 190 = .ok (.ifCond .ne 7, 3) := by decide +kernel
theorem dX9_holeValue_193 : decode cX9_holeValue 193 = .ok (.iconst (-1), 1) := by decide +kernel
theorem dX9_holeValue_194 : decode cX9_holeValue 194 = .ok (.goto 11, 3) := by decide +kernel
theorem dX9_holeValue_197 : decode cX9_holeValue 197 = .ok (.aload_n 3, 1) := by decide +kernel
theorem dX9_holeValue_198 : decode cX9_holeValue 198 = .ok (.getfield 310, 3) := by decide +kernel
theorem dX9_holeValue_201 : decode cX9_holeValue 201 = .ok (.iload_n 1, 1) := by decide +kernel
theorem dX9_holeValue_202 : decode cX9_holeValue 202 = .ok (.invokestatic 95, 3) := by decide +kernel
theorem dX9_holeValue_205 : decode cX9_holeValue 205 = .ok (.ireturn, 1) := by decide +kernel
theorem dX9_holeValue_206 : decode cX9_holeValue 206 = .ok (.aload_n 3, 1) := by decide +kernel
theorem dX9_holeValue_207 : decode cX9_holeValue 207 = .ok (.iload_n 1, 1) := by decide +kernel
theorem dX9_holeValue_208 : decode cX9_holeValue 208 = .ok (.iload_n 1, 1) := by decide +kernel
theorem dX9_holeValue_209 : decode cX9_holeValue 209 = .ok (.iconst 1, 1) := by decide +kernel
theorem dX9_holeValue_210 : decode cX9_holeValue 210 = .ok (.iadd, 1) := by decide +kernel
theorem dX9_holeValue_211 : decode cX9_holeValue 211 = .ok (.invokevirtual 313, 3) := by decide +kernel
theorem dX9_holeValue_214 : decode cX9_holeValue 214 = .ok (.ireturn, 1) := by decide +kernel
theorem dX9_holeValue_215 : decode cX9_holeValue 215 = .ok (.aload_n 0, 1) := by decide +kernel
theorem dX9_holeValue_216 : decode cX9_holeValue 216 = .ok (.getfield 10, 3) := by decide +kernel
theorem dX9_holeValue_219 : decode cX9_holeValue 219 = .ok (.getfield 316, 3) := by decide +kernel
theorem dX9_holeValue_222 : decode cX9_holeValue 222 = .ok (.iload_n 1, 1) := by decide +kernel
theorem dX9_holeValue_223 : decode cX9_holeValue 223 = .ok (.invokestatic 95, 3) := by decide +kernel
theorem dX9_holeValue_226 : decode cX9_holeValue 226 = .ok (.ireturn, 1) := by decide +kernel
theorem dX9_readingValue_0 : decode cX9_readingValue 0 = .ok (.aload_n 0, 1) := by decide +kernel
theorem dX9_readingValue_1 : decode cX9_readingValue 1 = .ok (.getfield 10, 3) := by decide +kernel
theorem dX9_readingValue_4 : decode cX9_readingValue 4 = .ok (.getfield 141, 3) := by decide +kernel
theorem dX9_readingValue_7 : decode cX9_readingValue 7 = .ok (.astore_n 3, 1) := by decide +kernel
theorem dX9_readingValue_8 : decode cX9_readingValue 8 = .ok (.iload_n 2, 1) := by decide +kernel
theorem dX9_readingValue_9 : decode cX9_readingValue 9 = .ok (.tableswitch 73 8 10 #[27, 36, 45], 27) := by decide +kernel
theorem dX9_readingValue_36 : decode cX9_readingValue 36 = .ok (.aload_n 3, 1) := by decide +kernel
theorem dX9_readingValue_37 : decode cX9_readingValue 37 = .ok (.getfield 319, 3) := by decide +kernel
theorem dX9_readingValue_40 : decode cX9_readingValue 40 = .ok (.iload_n 1, 1) := by decide +kernel
theorem dX9_readingValue_41 : decode cX9_readingValue 41 = .ok (.invokestatic 95, 3) := by decide +kernel
theorem dX9_readingValue_44 : decode cX9_readingValue 44 = .ok (.ireturn, 1) := by decide +kernel
theorem dX9_readingValue_45 : decode cX9_readingValue 45 = .ok (.aload_n 3, 1) := by decide +kernel
theorem dX9_readingValue_46 : decode cX9_readingValue 46 = .ok (.getfield 322, 3) := by decide +kernel
theorem dX9_readingValue_49 : decode cX9_readingValue 49 = .ok (.iload_n 1, 1) := by decide +kernel
theorem dX9_readingValue_50 : decode cX9_readingValue 50 = .ok (.invokestatic 95, 3) := by decide +kernel
theorem dX9_readingValue_53 : decode cX9_readingValue 53 = .ok (.ireturn, 1) := by decide +kernel
theorem dX9_readingValue_54 : decode cX9_readingValue 54 = .ok (.aload_n 3, 1) := by decide +kernel
theorem dX9_readingValue_55 : decode cX9_readingValue 55 = .ok (.iload_n 1, 1) := by decide +kernel
theorem dX9_readingValue_56 : decode cX9_readingValue 56 = .ok (.aload_n 0, 1) := by decide +kernel
theorem dX9_readingValue_57 : decode cX9_readingValue 57 = .ok (.getfield 10, 3) := by decide +kernel
theorem dX9_readingValue_60 : decode cX9_readingValue 60 = .ok (.getfield 69, 3) := by decide +kernel
theorem dX9_readingValue_63 : decode cX9_readingValue 63 = .ok (.aload_n 0, 1) := by decide +kernel
theorem dX9_readingValue_64 : decode cX9_readingValue 64 = .ok (.getfield 10, 3) := by decide +kernel
theorem dX9_readingValue_67 : decode cX9_readingValue 67 = .ok (.getfield 79, 3) := by decide +kernel
theorem dX9_readingValue_70 : decode cX9_readingValue 70 = .ok (.invokevirtual 325, 3) := by decide +kernel
theorem dX9_readingValue_73 : decode cX9_readingValue 73 = .ok (.ifCond .eq 7, 3) := by decide +kernel
theorem dX9_readingValue_76 : decode cX9_readingValue 76 = .ok (.iconst 1, 1) := by decide +kernel
theorem dX9_readingValue_77 : decode cX9_readingValue 77 = .ok (.goto 4, 3) := by decide +kernel
theorem dX9_readingValue_80 : decode cX9_readingValue 80 = .ok (.iconst 0, 1) := by decide +kernel
theorem dX9_readingValue_81 : decode cX9_readingValue 81 = .ok (.ireturn, 1) := by decide +kernel
theorem dX9_readingValue_82 : decode cX9_readingValue 82 = .ok (.iload_n 2, 1) := by decide +kernel
theorem dX9_readingValue_83 : decode cX9_readingValue 83 = .ok (.aload_n 3, 1) := by decide +kernel
theorem dX9_readingValue_84 : decode cX9_readingValue 84 = .ok (.getfield 319, 3) := by decide +kernel
theorem dX9_readingValue_87 : decode cX9_readingValue 87 = .ok (.iload_n 1, 1) := by decide +kernel
theorem dX9_readingValue_88 : decode cX9_readingValue 88 = .ok (.invokestatic 95, 3) := by decide +kernel
theorem dX9_readingValue_91 : decode cX9_readingValue 91 = .ok (.if_icmp .ge 12, 3) := by decide +kernel
theorem dX9_readingValue_94 : decode cX9_readingValue 94 = .ok (.aload_n 3, 1) := by decide +kernel
theorem dX9_readingValue_95 : decode cX9_readingValue 95 = .ok (.iload_n 1, 1) := by decide +kernel
theorem dX9_readingValue_96 : decode cX9_readingValue 96 = .ok (.iload_n 2, 1) := by decide +kernel
theorem dX9_readingValue_97 : decode cX9_readingValue 97 = .ok (.invokevirtual 329, 3) := by decide +kernel
theorem dX9_readingValue_100 : decode cX9_readingValue 100 = .ok (.goto 4, 3) := by decide +kernel
theorem dX9_readingValue_103 : decode cX9_readingValue 103 = .ok (.iconst (-1), 1) := by decide +kernel
theorem dX9_readingValue_104 : decode cX9_readingValue 104 = .ok (.ireturn, 1) := by decide +kernel
theorem dX9_flowValue_0 : decode cX9_flowValue 0 = .ok (.aload_n 0, 1) := by decide +kernel
theorem dX9_flowValue_1 : decode cX9_flowValue 1 = .ok (.getfield 10, 3) := by decide +kernel
theorem dX9_flowValue_4 : decode cX9_flowValue 4 = .ok (.getfield 69, 3) := by decide +kernel
theorem dX9_flowValue_7 : decode cX9_flowValue 7 = .ok (.iconst 2, 1) := by decide +kernel
theorem dX9_flowValue_8 : decode cX9_flowValue 8 = .ok (.idiv, 1) := by decide +kernel
theorem dX9_flowValue_9 : decode cX9_flowValue 9 = .ok (.istore_n 3, 1) := by decide +kernel
theorem dX9_flowValue_10 : decode cX9_flowValue 10 = .ok (.iload_n 1, 1) := by decide +kernel
theorem dX9_flowValue_11 : decode cX9_flowValue 11 = .ok (.tableswitch 58 0 2 #[25, 38, 45], 25) := by decide +kernel
theorem dX9_flowValue_36 : decode cX9_flowValue 36 = .ok (.aload_n 2, 1) := by decide +kernel
theorem dX9_flowValue_37 : decode cX9_flowValue 37 = .ok (.iconst 0, 1) := by decide +kernel
theorem dX9_flowValue_38 : decode cX9_flowValue 38 = .ok (.aload_n 0, 1) := by decide +kernel
theorem dX9_flowValue_39 : decode cX9_flowValue 39 = .ok (.getfield 10, 3) := by decide +kernel
theorem dX9_flowValue_42 : decode cX9_flowValue 42 = .ok (.getfield 69, 3) := by decide +kernel
theorem dX9_flowValue_45 : decode cX9_flowValue 45 = .ok (.invokevirtual 313, 3) := by decide +kernel
theorem dX9_flowValue_48 : decode cX9_flowValue 48 = .ok (.ireturn, 1) := by decide +kernel
theorem dX9_flowValue_49 : decode cX9_flowValue 49 = .ok (.aload_n 2, 1) := by decide +kernel
theorem dX9_flowValue_50 : decode cX9_flowValue 50 = .ok (.iconst 0, 1) := by decide +kernel
theorem dX9_flowValue_51 : decode cX9_flowValue 51 = .ok (.iload_n 3, 1) := by decide +kernel
theorem dX9_flowValue_52 : decode cX9_flowValue 52 = .ok (.invokevirtual 313, 3) := by decide +kernel
theorem dX9_flowValue_55 : decode cX9_flowValue 55 = .ok (.ireturn, 1) := by decide +kernel
theorem dX9_flowValue_56 : decode cX9_flowValue 56 = .ok (.aload_n 2, 1) := by decide +kernel
theorem dX9_flowValue_57 : decode cX9_flowValue 57 = .ok (.iload_n 3, 1) := by decide +kernel
theorem dX9_flowValue_58 : decode cX9_flowValue 58 = .ok (.aload_n 0, 1) := by decide +kernel
theorem dX9_flowValue_59 : decode cX9_flowValue 59 = .ok (.getfield 10, 3) := by decide +kernel
theorem dX9_flowValue_62 : decode cX9_flowValue 62 = .ok (.getfield 69, 3) := by decide +kernel
theorem dX9_flowValue_65 : decode cX9_flowValue 65 = .ok (.invokevirtual 313, 3) := by decide +kernel
theorem dX9_flowValue_68 : decode cX9_flowValue 68 = .ok (.ireturn, 1) := by decide +kernel
theorem dX9_flowValue_69 : decode cX9_flowValue 69 = .ok (.aload_n 0, 1) := by decide +kernel
theorem dX9_flowValue_70 : decode cX9_flowValue 70 = .ok (.getfield 10, 3) := by decide +kernel
theorem dX9_flowValue_73 : decode cX9_flowValue 73 = .ok (.aload_n 0, 1) := by decide +kernel
theorem dX9_flowValue_74 : decode cX9_flowValue 74 = .ok (.getfield 10, 3) := by decide +kernel
theorem dX9_flowValue_77 : decode cX9_flowValue 77 = .ok (.getfield 69, 3) := by decide +kernel
theorem dX9_flowValue_80 : decode cX9_flowValue 80 = .ok (.invokestatic 255, 3) := by decide +kernel
theorem dX9_flowValue_83 : decode cX9_flowValue 83 = .ok (.ireturn, 1) := by decide +kernel
theorem dX9_countValue_0 : decode cX9_countValue 0 = .ok (.iload_n 1, 1) := by decide +kernel
theorem dX9_countValue_1 : decode cX9_countValue 1 = .ok (.tableswitch 176 0 12 #[67, 75, 83, 94, 99, 104, 110, 116, 122, 128, 152, 160, 168], 67) := by decide +kernel
theorem dX9_countValue_68 : decode cX9_countValue 68 = .ok (.aload_n 0, 1) := by decide +kernel
theorem dX9_countValue_69 : decode cX9_countValue 69 = .ok (.getfield 10, 3) := by decide +kernel
theorem dX9_countValue_72 : decode cX9_countValue 72 = .ok (.getfield 69, 3) := by decide +kernel
theorem dX9_countValue_75 : decode cX9_countValue 75 = .ok (.ireturn, 1) := by decide +kernel
theorem dX9_countValue_76 : decode cX9_countValue 76 = .ok (.aload_n 0, 1) := by decide +kernel
theorem dX9_countValue_77 : decode cX9_countValue 77 = .ok (.getfield 10, 3) := by decide +kernel
theorem dX9_countValue_80 : decode cX9_countValue 80 = .ok (.getfield 79, 3) := by decide +kernel
theorem dX9_countValue_83 : decode cX9_countValue 83 = .ok (.ireturn, 1) := by decide +kernel
theorem dX9_countValue_84 : decode cX9_countValue 84 = .ok (.aload_n 0, 1) := by decide +kernel
theorem dX9_countValue_85 : decode cX9_countValue 85 = .ok (.getfield 10, 3) := by decide +kernel
theorem dX9_countValue_88 : decode cX9_countValue 88 = .ok (.getfield 141, 3) := by decide +kernel
theorem dX9_countValue_91 : decode cX9_countValue 91 = .ok (.getfield 145, 3) := by decide +kernel
theorem dX9_countValue_94 : decode cX9_countValue 94 = .ok (.ireturn, 1) := by decide +kernel
theorem dX9_countValue_95 : decode cX9_countValue 95 = .ok (.aload_n 2, 1) := by decide +kernel
theorem dX9_countValue_96 : decode cX9_countValue 96 = .ok (.getfield 298, 3) := by decide +kernel
theorem dX9_countValue_99 : decode cX9_countValue 99 = .ok (.ireturn, 1) := by decide +kernel
theorem dX9_countValue_100 : decode cX9_countValue 100 = .ok (.aload_n 2, 1) := by decide +kernel
theorem dX9_countValue_101 : decode cX9_countValue 101 = .ok (.getfield 307, 3) := by decide +kernel
theorem dX9_countValue_104 : decode cX9_countValue 104 = .ok (.ireturn, 1) := by decide +kernel
theorem dX9_countValue_105 : decode cX9_countValue 105 = .ok (.aload_n 2, 1) := by decide +kernel
theorem dX9_countValue_106 : decode cX9_countValue 106 = .ok (.iconst 1, 1) := by decide +kernel
theorem dX9_countValue_107 : decode cX9_countValue 107 = .ok (.invokevirtual 332, 3) := by decide +kernel
theorem dX9_countValue_110 : decode cX9_countValue 110 = .ok (.ireturn, 1) := by decide +kernel
theorem dX9_countValue_111 : decode cX9_countValue 111 = .ok (.aload_n 2, 1) := by decide +kernel
theorem dX9_countValue_112 : decode cX9_countValue 112 = .ok (.iconst 2, 1) := by decide +kernel
theorem dX9_countValue_113 : decode cX9_countValue 113 = .ok (.invokevirtual 332, 3) := by decide +kernel
theorem dX9_countValue_116 : decode cX9_countValue 116 = .ok (.ireturn, 1) := by decide +kernel
theorem dX9_countValue_117 : decode cX9_countValue 117 = .ok (.aload_n 2, 1) := by decide +kernel
theorem dX9_countValue_118 : decode cX9_countValue 118 = .ok (.iconst 3, 1) := by decide +kernel
theorem dX9_countValue_119 : decode cX9_countValue 119 = .ok (.invokevirtual 332, 3) := by decide +kernel
theorem dX9_countValue_122 : decode cX9_countValue 122 = .ok (.ireturn, 1) := by decide +kernel
theorem dX9_countValue_123 : decode cX9_countValue 123 = .ok (.aload_n 2, 1) := by decide +kernel
theorem dX9_countValue_124 : decode cX9_countValue 124 = .ok (.iconst 4, 1) := by decide +kernel
theorem dX9_countValue_125 : decode cX9_countValue 125 = .ok (.invokevirtual 332, 3) := by decide +kernel
theorem dX9_countValue_128 : decode cX9_countValue 128 = .ok (.ireturn, 1) := by decide +kernel
theorem dX9_countValue_129 : decode cX9_countValue 129 = .ok (.aload_n 0, 1) := by decide +kernel
theorem dX9_countValue_130 : decode cX9_countValue 130 = .ok (.getfield 10, 3) := by decide +kernel
theorem dX9_countValue_133 : decode cX9_countValue 133 = .ok (.getfield 335, 3) := by decide +kernel
theorem dX9_countValue_136 : decode cX9_countValue 136 = .ok (.aload_n 0, 1) := by decide +kernel
theorem dX9_countValue_137 : decode cX9_countValue 137 = .ok (.getfield 10, 3) := by decide +kernel
theorem dX9_countValue_140 : decode cX9_countValue 140 = .ok (.getfield 338, 3) := by decide +kernel
theorem dX9_countValue_143 : decode cX9_countValue 143 = .ok (.iadd, 1) := by decide +kernel
theorem dX9_countValue_144 : decode cX9_countValue 144 = .ok (.aload_n 0, 1) := by decide +kernel
theorem dX9_countValue_145 : decode cX9_countValue 145 = .ok (.getfield 10, 3) := by decide +kernel
theorem dX9_countValue_148 : decode cX9_countValue 148 = .ok (.invokevirtual 341, 3) := by decide +kernel
theorem dX9_countValue_151 : decode cX9_countValue 151 = .ok (.iadd, 1) := by decide +kernel
theorem dX9_countValue_152 : decode cX9_countValue 152 = .ok (.ireturn, 1) := by decide +kernel
theorem dX9_countValue_153 : decode cX9_countValue 153 = .ok (.aload_n 0, 1) := by decide +kernel
theorem dX9_countValue_154 : decode cX9_countValue 154 = .ok (.getfield 10, 3) := by decide +kernel
theorem dX9_countValue_157 : decode cX9_countValue 157 = .ok (.getfield 335, 3) := by decide +kernel
theorem dX9_countValue_160 : decode cX9_countValue 160 = .ok (.ireturn, 1) := by decide +kernel
theorem dX9_countValue_161 : decode cX9_countValue 161 = .ok (.aload_n 0, 1) := by decide +kernel
theorem dX9_countValue_162 : decode cX9_countValue 162 = .ok (.getfield 10, 3) := by decide +kernel
theorem dX9_countValue_165 : decode cX9_countValue 165 = .ok (.getfield 338, 3) := by decide +kernel
theorem dX9_countValue_168 : decode cX9_countValue 168 = .ok (.ireturn, 1) := by decide +kernel
theorem dX9_countValue_169 : decode cX9_countValue 169 = .ok (.aload_n 0, 1) := by decide +kernel
theorem dX9_countValue_170 : decode cX9_countValue 170 = .ok (.getfield 10, 3) := by decide +kernel
theorem dX9_countValue_173 : decode cX9_countValue 173 = .ok (.getfield 344, 3) := by decide +kernel
theorem dX9_countValue_176 : decode cX9_countValue 176 = .ok (.ireturn, 1) := by decide +kernel
theorem dX9_countValue_177 : decode cX9_countValue 177 = .ok (.aload_n 0, 1) := by decide +kernel
theorem dX9_countValue_178 : decode cX9_countValue 178 = .ok (.getfield 19, 3) := by decide +kernel
theorem dX9_countValue_181 : decode cX9_countValue 181 = .ok (.getfield 216, 3) := by decide +kernel
theorem dX9_countValue_184 : decode cX9_countValue 184 = .ok (.ireturn, 1) := by decide +kernel
theorem dX9_wholeIfRight_0 : decode cX9_wholeIfRight 0 = .ok (.aload_n 0, 1) := by decide +kernel
theorem dX9_wholeIfRight_1 : decode cX9_wholeIfRight 1 = .ok (.getfield 47, 3) := by decide +kernel
theorem dX9_wholeIfRight_4 : decode cX9_wholeIfRight 4 = .ok (.aload_n 0, 1) := by decide +kernel
theorem dX9_wholeIfRight_5 : decode cX9_wholeIfRight 5 = .ok (.getfield 10, 3) := by decide +kernel
theorem dX9_wholeIfRight_8 : decode cX9_wholeIfRight 8 = .ok (.iload_n 1, 1) := by decide +kernel
theorem dX9_wholeIfRight_9 : decode cX9_wholeIfRight 9 = .ok (.aload_n 0, 1) := by decide +kernel
theorem dX9_wholeIfRight_10 : decode cX9_wholeIfRight 10 = .ok (.getfield 10, 3) := by decide +kernel
theorem dX9_wholeIfRight_13 : decode cX9_wholeIfRight 13 = .ok (.iload_n 1, 1) := by decide +kernel
theorem dX9_wholeIfRight_14 : decode cX9_wholeIfRight 14 = .ok (.invokestatic 127, 3) := by decide +kernel
theorem dX9_wholeIfRight_17 : decode cX9_wholeIfRight 17 = .ok (.invokevirtual 347, 3) := by decide +kernel
theorem dX9_wholeIfRight_20 : decode cX9_wholeIfRight 20 = .ok (.aload_n 0, 1) := by decide +kernel
theorem dX9_wholeIfRight_21 : decode cX9_wholeIfRight 21 = .ok (.getfield 47, 3) := by decide +kernel
theorem dX9_wholeIfRight_24 : decode cX9_wholeIfRight 24 = .ok (.iconst 0, 1) := by decide +kernel
theorem dX9_wholeIfRight_25 : decode cX9_wholeIfRight 25 = .ok (.aload_n 0, 1) := by decide +kernel
theorem dX9_wholeIfRight_26 : decode cX9_wholeIfRight 26 = .ok (.getfield 10, 3) := by decide +kernel
theorem dX9_wholeIfRight_29 : decode cX9_wholeIfRight 29 = .ok (.getfield 69, 3) := by decide +kernel
theorem dX9_wholeIfRight_32 : decode cX9_wholeIfRight 32 = .ok (.invokevirtual 313, 3) := by decide +kernel
theorem dX9_wholeIfRight_35 : decode cX9_wholeIfRight 35 = .ok (.ireturn, 1) := by decide +kernel
theorem dX9_worstHole_0 : decode cX9_worstHole 0 = .ok (.aload_n 1, 1) := by decide +kernel
theorem dX9_worstHole_1 : decode cX9_worstHole 1 = .ok (.getfield 307, 3) := by decide +kernel
theorem dX9_worstHole_4 : decode cX9_worstHole 4 = .ok (.ifCond .ne 5, 3) := by decide +kernel
theorem dX9_worstHole_7 : decode cX9_worstHole 7 = .ok (.iconst (-1), 1) := by decide +kernel
theorem dX9_worstHole_8 : decode cX9_worstHole 8 = .ok (.ireturn, 1) := by decide +kernel
theorem dX9_worstHole_9 : decode cX9_worstHole 9 = .ok (.aload_n 1, 1) := by decide +kernel
theorem dX9_worstHole_10 : decode cX9_worstHole 10 = .ok (.iconst 0, 1) := by decide +kernel
theorem dX9_worstHole_11 : decode cX9_worstHole 11 = .ok (.aload_n 0, 1) := by decide +kernel
theorem dX9_worstHole_12 : decode cX9_worstHole 12 = .ok (.getfield 10, 3) := by decide +kernel
theorem dX9_worstHole_15 : decode cX9_worstHole 15 = .ok (.getfield 69, 3) := by decide +kernel
theorem dX9_worstHole_18 : decode cX9_worstHole 18 = .ok (.invokevirtual 313, 3) := by decide +kernel
theorem dX9_worstHole_21 : decode cX9_worstHole 21 = .ok (.istore_n 2, 1) := by decide +kernel
theorem dX9_worstHole_22 : decode cX9_worstHole 22 = .ok (.iconst (-1), 1) := by decide +kernel
theorem dX9_worstHole_23 : decode cX9_worstHole 23 = .ok (.istore_n 3, 1) := by decide +kernel
theorem dX9_worstHole_24 : decode cX9_worstHole 24 = .ok (.iconst (-1), 1) := by decide +kernel
theorem dX9_worstHole_25 : decode cX9_worstHole 25 = .ok (.istore 4, 2) := by decide +kernel
theorem dX9_worstHole_27 : decode cX9_worstHole 27 = .ok (.iconst 0, 1) := by decide +kernel
theorem dX9_worstHole_28 : decode cX9_worstHole 28 = .ok (.istore 5, 2) := by decide +kernel
theorem dX9_worstHole_30 : decode cX9_worstHole 30 = .ok (.iload 5, 2) := by decide +kernel
theorem dX9_worstHole_32 : decode cX9_worstHole 32 = .ok (.aload_n 0, 1) := by decide +kernel
theorem dX9_worstHole_33 : decode cX9_worstHole 33 = .ok (.getfield 10, 3) := by decide +kernel
theorem dX9_worstHole_36 : decode cX9_worstHole 36 = .ok (.getfield 69, 3) := by decide +kernel
theorem dX9_worstHole_39 : decode cX9_worstHole 39 = .ok (.if_icmp .ge 46, 3) := by decide +kernel
theorem dX9_worstHole_42 : decode cX9_worstHole 42 = .ok (.aload_n 0, 1) := by decide +kernel
theorem dX9_worstHole_43 : decode cX9_worstHole 43 = .ok (.iload 5, 2) := by decide +kernel
theorem dX9_worstHole_45 : decode cX9_worstHole 45 = .ok (.invokevirtual 248, 3) := by decide +kernel
theorem dX9_worstHole_48 : decode cX9_worstHole 48 = .ok (.istore 6, 2) := by decide +kernel
theorem dX9_worstHole_50 : decode cX9_worstHole 50 = .ok (.iload 6, 2) := by decide +kernel
theorem dX9_worstHole_52 : decode cX9_worstHole 52 = .ok (.iload_n 2, 1) := by decide +kernel
theorem dX9_worstHole_53 : decode cX9_worstHole 53 = .ok (.isub, 1) := by decide +kernel
theorem dX9_worstHole_54 : decode cX9_worstHole 54 = .ok (.invokestatic 351, 3) := by decide +kernel
theorem dX9_worstHole_57 : decode cX9_worstHole 57 = .ok (.istore 7, 2) := by decide +kernel
theorem dX9_worstHole_59 : decode cX9_worstHole 59 = .ok (.iload 6, 2) := by decide +kernel
theorem dX9_worstHole_61 : decode cX9_worstHole 61 = .ok (.iconst (-1), 1) := by decide +kernel
theorem dX9_worstHole_62 : decode cX9_worstHole 62 = .ok (.if_icmp .eq 17, 3) := by decide +kernel
theorem dX9_worstHole_65 : decode cX9_worstHole 65 = .ok (.iload 7, 2) := by decide +kernel
theorem dX9_worstHole_67 : decode cX9_worstHole 67 = .ok (.iload 4, 2) := by decide +kernel
theorem dX9_worstHole_69 : decode cX9_worstHole 69 = .ok (.if_icmp .le 10, 3) := by decide +kernel
theorem dX9_worstHole_72 : decode cX9_worstHole 72 = .ok (.iload 7, 2) := by decide +kernel
theorem dX9_worstHole_74 : decode cX9_worstHole 74 = .ok (.istore 4, 2) := by decide +kernel
theorem dX9_worstHole_76 : decode cX9_worstHole 76 = .ok (.iload 5, 2) := by decide +kernel
theorem dX9_worstHole_78 : decode cX9_worstHole 78 = .ok (.istore_n 3, 1) := by decide +kernel
theorem dX9_worstHole_79 : decode cX9_worstHole 79 = .ok (.iinc 5 1, 3) := by decide +kernel
theorem dX9_worstHole_82 : decode cX9_worstHole 82 = .ok (.goto (-52), 3) := by decide +kernel
theorem dX9_worstHole_85 : decode cX9_worstHole 85 = .ok (.iload_n 3, 1) := by decide +kernel
theorem dX9_worstHole_86 : decode cX9_worstHole 86 = .ok (.ireturn, 1) := by decide +kernel
theorem dX9_fewestHoles_0 : decode cX9_fewestHoles 0 = .ok (.aload_n 0, 1) := by decide +kernel
theorem dX9_fewestHoles_1 : decode cX9_fewestHoles 1 = .ok (.getfield 10, 3) := by decide +kernel
theorem dX9_fewestHoles_4 : decode cX9_fewestHoles 4 = .ok (.bipush 8, 2) := by decide +kernel
theorem dX9_fewestHoles_6 : decode cX9_fewestHoles 6 = .ok (.invokestatic 255, 3) := by decide +kernel
theorem dX9_fewestHoles_9 : decode cX9_fewestHoles 9 = .ok (.istore_n 2, 1) := by decide +kernel
theorem dX9_fewestHoles_10 : decode cX9_fewestHoles 10 = .ok (.iconst 2, 1) := by decide +kernel
theorem dX9_fewestHoles_11 : decode cX9_fewestHoles 11 = .ok (.istore_n 3, 1) := by decide +kernel
theorem dX9_fewestHoles_12 : decode cX9_fewestHoles 12 = .ok (.iload_n 3, 1) := by decide +kernel
theorem dX9_fewestHoles_13 : decode cX9_fewestHoles 13 = .ok (.bipush 8, 2) := by decide +kernel
theorem dX9_fewestHoles_15 : decode cX9_fewestHoles 15 = .ok (.if_icmp .ge 28, 3) := by decide +kernel
theorem dX9_fewestHoles_18 : decode cX9_fewestHoles 18 = .ok (.aload_n 0, 1) := by decide +kernel
theorem dX9_fewestHoles_19 : decode cX9_fewestHoles 19 = .ok (.getfield 10, 3) := by decide +kernel
theorem dX9_fewestHoles_22 : decode cX9_fewestHoles 22 = .ok (.iload_n 3, 1) := by decide +kernel
theorem dX9_fewestHoles_23 : decode cX9_fewestHoles 23 = .ok (.invokestatic 255, 3) := by decide +kernel
theorem dX9_fewestHoles_26 : decode cX9_fewestHoles 26 = .ok (.iload_n 2, 1) := by decide +kernel
theorem dX9_fewestHoles_27 : decode cX9_fewestHoles 27 = .ok (.isub, 1) := by decide +kernel
theorem dX9_fewestHoles_28 : decode cX9_fewestHoles 28 = .ok (.invokestatic 351, 3) := by decide +kernel
theorem dX9_fewestHoles_31 : decode cX9_fewestHoles 31 = .ok (.iload_n 1, 1) := by decide +kernel
theorem dX9_fewestHoles_32 : decode cX9_fewestHoles 32 = .ok (.if_icmp .gt 5, 3) := by decide +kernel
theorem dX9_fewestHoles_35 : decode cX9_fewestHoles 35 = .ok (.iload_n 3, 1) := by decide +kernel
theorem dX9_fewestHoles_36 : decode cX9_fewestHoles 36 = .ok (.ireturn, 1) := by decide +kernel
theorem dX9_fewestHoles_37 : decode cX9_fewestHoles 37 = .ok (.iinc 3 1, 3) := by decide +kernel
theorem dX9_fewestHoles_40 : decode cX9_fewestHoles 40 = .ok (.goto (-28), 3) := by decide +kernel
theorem dX9_fewestHoles_43 : decode cX9_fewestHoles 43 = .ok (.bipush 8, 2) := by decide +kernel
theorem dX9_fewestHoles_45 : decode cX9_fewestHoles 45 = .ok (.ireturn, 1) := by decide +kernel
theorem dX9_mixed_0 : decode cX9_mixed 0 = .ok (.ldc2_w 356, 3) := by decide +kernel
theorem dX9_mixed_3 : decode cX9_mixed 3 = .ok (.lload_n 0, 1) := by decide +kernel
theorem dX9_mixed_4 : decode cX9_mixed 4 = .ok (.lmul, 1) := by decide +kernel
theorem dX9_mixed_5 : decode cX9_mixed 5 = .ok (.lload_n 2, 1) := by decide +kernel
theorem dX9_mixed_6 : decode cX9_mixed 6 = .ok (.ladd, 1) := by decide +kernel
theorem dX9_mixed_7 : decode cX9_mixed 7 = .ok (.lreturn, 1) := by decide +kernel
theorem dX9_mixedWithHoles_0 : decode cX9_mixedWithHoles 0 = .ok (.lload_n 1, 1) := by decide +kernel
theorem dX9_mixedWithHoles_1 : decode cX9_mixedWithHoles 1 = .ok (.lstore 4, 2) := by decide +kernel
theorem dX9_mixedWithHoles_3 : decode cX9_mixedWithHoles 3 = .ok (.iconst 0, 1) := by decide +kernel
theorem dX9_mixedWithHoles_4 : decode cX9_mixedWithHoles 4 = .ok (.istore 6, 2) := by decide +kernel
theorem dX9_mixedWithHoles_6 : decode cX9_mixedWithHoles 6 = .ok (.iload 6, 2) := by decide +kernel
theorem dX9_mixedWithHoles_8 : decode cX9_mixedWithHoles 8 = .ok (.aload_n 0, 1) := by decide +kernel
theorem dX9_mixedWithHoles_9 : decode cX9_mixedWithHoles 9 = .ok (.getfield 10, 3) := by decide +kernel
theorem dX9_mixedWithHoles_12 : decode cX9_mixedWithHoles 12 = .ok (.getfield 69, 3) := by decide +kernel
theorem dX9_mixedWithHoles_15 : decode cX9_mixedWithHoles 15 = .ok (.if_icmp .ge 56, 3) := by decide +kernel
theorem dX9_mixedWithHoles_18 : decode cX9_mixedWithHoles 18 = .ok (.iconst 0, 1) := by decide +kernel
theorem dX9_mixedWithHoles_19 : decode cX9_mixedWithHoles 19 = .ok (.istore 7, 2) := by decide +kernel
theorem dX9_mixedWithHoles_21 : decode cX9_mixedWithHoles 21 = .ok (.iload 7, 2) := by decide +kernel
theorem dX9_mixedWithHoles_23 : decode cX9_mixedWithHoles 23 = .ok (.bipush 11, 2) := by decide +kernel
theorem dX9_mixedWithHoles_25 : decode cX9_mixedWithHoles 25 = .ok (.if_icmp .gt 26, 3) := by decide +kernel
theorem dX9_mixedWithHoles_28 : decode cX9_mixedWithHoles 28 = .ok (.lload 4, 2) := by decide +kernel
theorem dX9_mixedWithHoles_30 : decode cX9_mixedWithHoles 30 = .ok (.aload_n 0, 1) := by decide +kernel
theorem dX9_mixedWithHoles_31 : decode cX9_mixedWithHoles 31 = .ok (.iload 6, 2) := by decide +kernel
theorem dX9_mixedWithHoles_33 : decode cX9_mixedWithHoles 33 = .ok (.iload 7, 2) := by decide +kernel
theorem dX9_mixedWithHoles_35 : decode cX9_mixedWithHoles 35 = .ok (.aload_n 3, 1) := by decide +kernel
theorem dX9_mixedWithHoles_36 : decode cX9_mixedWithHoles 36 = .ok (.invokevirtual 227, 3) := by decide +kernel
theorem dX9_mixedWithHoles_39 : decode cX9_mixedWithHoles 39 = .ok (.i2l, 1) := by decide +kernel
theorem dX9_mixedWithHoles_40 : decode cX9_mixedWithHoles 40 = .ok (.invokestatic 270, 3) := by decide +kernel
theorem dX9_mixedWithHoles_43 : decode cX9_mixedWithHoles 43 = .ok (.lstore 4, 2) := by decide +kernel
theorem dX9_mixedWithHoles_45 : decode cX9_mixedWithHoles 45 = .ok (.iinc 7 1, 3) := by decide +kernel
theorem dX9_mixedWithHoles_48 : decode cX9_mixedWithHoles 48 = .ok (.goto (-27), 3) := by decide +kernel
theorem dX9_mixedWithHoles_51 : decode cX9_mixedWithHoles 51 = .ok (.lload 4, 2) := by decide +kernel
theorem dX9_mixedWithHoles_53 : decode cX9_mixedWithHoles 53 = .ok (.aload_n 0, 1) := by decide +kernel
theorem dX9_mixedWithHoles_54 : decode cX9_mixedWithHoles 54 = .ok (.iload 6, 2) := by decide +kernel
theorem dX9_mixedWithHoles_56 : decode cX9_mixedWithHoles 56 = .ok (.invokevirtual 248, 3) := by decide +kernel
theorem dX9_mixedWithHoles_59 : decode cX9_mixedWithHoles 59 = .ok (.i2l, 1) := by decide +kernel
theorem dX9_mixedWithHoles_60 : decode cX9_mixedWithHoles 60 = .ok (.invokestatic 270, 3) := by decide +kernel
theorem dX9_mixedWithHoles_63 : decode cX9_mixedWithHoles 63 = .ok (.lstore 4, 2) := by decide +kernel
theorem dX9_mixedWithHoles_65 : decode cX9_mixedWithHoles 65 = .ok (.iinc 6 1, 3) := by decide +kernel
theorem dX9_mixedWithHoles_68 : decode cX9_mixedWithHoles 68 = .ok (.goto (-62), 3) := by decide +kernel
theorem dX9_mixedWithHoles_71 : decode cX9_mixedWithHoles 71 = .ok (.lload 4, 2) := by decide +kernel
theorem dX9_mixedWithHoles_73 : decode cX9_mixedWithHoles 73 = .ok (.lreturn, 1) := by decide +kernel
theorem dX9_mixedWithReadings_0 : decode cX9_mixedWithReadings 0 = .ok (.lload_n 1, 1) := by decide +kernel
theorem dX9_mixedWithReadings_1 : decode cX9_mixedWithReadings 1 = .ok (.lstore_n 3, 1) := by decide +kernel
theorem dX9_mixedWithReadings_2 : decode cX9_mixedWithReadings 2 = .ok (.iconst 0, 1) := by decide +kernel
theorem dX9_mixedWithReadings_3 : decode cX9_mixedWithReadings 3 = .ok (.istore 5, 2) := by decide +kernel
theorem dX9_mixedWithReadings_5 : decode cX9_mixedWithReadings 5 = .ok (.iload 5, 2) := by decide +kernel
theorem dX9_mixedWithReadings_7 : decode cX9_mixedWithReadings 7 = .ok (.aload_n 0, 1) := by decide +kernel
theorem dX9_mixedWithReadings_8 : decode cX9_mixedWithReadings 8 = .ok (.getfield 10, 3) := by decide +kernel
theorem dX9_mixedWithReadings_11 : decode cX9_mixedWithReadings 11 = .ok (.getfield 141, 3) := by decide +kernel
theorem dX9_mixedWithReadings_14 : decode cX9_mixedWithReadings 14 = .ok (.getfield 145, 3) := by decide +kernel
theorem dX9_mixedWithReadings_17 : decode cX9_mixedWithReadings 17 = .ok (.if_icmp .ge 39, 3) := by decide +kernel
theorem dX9_mixedWithReadings_20 : decode cX9_mixedWithReadings 20 = .ok (.iconst 0, 1) := by decide +kernel
theorem dX9_mixedWithReadings_21 : decode cX9_mixedWithReadings 21 = .ok (.istore 6, 2) := by decide +kernel
theorem dX9_mixedWithReadings_23 : decode cX9_mixedWithReadings 23 = .ok (.iload 6, 2) := by decide +kernel
theorem dX9_mixedWithReadings_25 : decode cX9_mixedWithReadings 25 = .ok (.bipush 10, 2) := by decide +kernel
theorem dX9_mixedWithReadings_27 : decode cX9_mixedWithReadings 27 = .ok (.if_icmp .gt 23, 3) := by decide +kernel
theorem dX9_mixedWithReadings_30 : decode cX9_mixedWithReadings 30 = .ok (.lload_n 3, 1) := by decide +kernel
theorem dX9_mixedWithReadings_31 : decode cX9_mixedWithReadings 31 = .ok (.aload_n 0, 1) := by decide +kernel
theorem dX9_mixedWithReadings_32 : decode cX9_mixedWithReadings 32 = .ok (.iload 5, 2) := by decide +kernel
theorem dX9_mixedWithReadings_34 : decode cX9_mixedWithReadings 34 = .ok (.iload 6, 2) := by decide +kernel
theorem dX9_mixedWithReadings_36 : decode cX9_mixedWithReadings 36 = .ok (.invokevirtual 233, 3) := by decide +kernel
theorem dX9_mixedWithReadings_39 : decode cX9_mixedWithReadings 39 = .ok (.i2l, 1) := by decide +kernel
theorem dX9_mixedWithReadings_40 : decode cX9_mixedWithReadings 40 = .ok (.invokestatic 270, 3) := by decide +kernel
theorem dX9_mixedWithReadings_43 : decode cX9_mixedWithReadings 43 = .ok (.lstore_n 3, 1) := by decide +kernel
theorem dX9_mixedWithReadings_44 : decode cX9_mixedWithReadings 44 = .ok (.iinc 6 1, 3) := by decide +kernel
theorem dX9_mixedWithReadings_47 : decode cX9_mixedWithReadings 47 = .ok (.goto (-24), 3) := by decide +kernel
theorem dX9_mixedWithReadings_50 : decode cX9_mixedWithReadings 50 = .ok (.iinc 5 1, 3) := by decide +kernel
theorem dX9_mixedWithReadings_53 : decode cX9_mixedWithReadings 53 = .ok (.goto (-48), 3) := by decide +kernel
theorem dX9_mixedWithReadings_56 : decode cX9_mixedWithReadings 56 = .ok (.lload_n 3, 1) := by decide +kernel
theorem dX9_mixedWithReadings_57 : decode cX9_mixedWithReadings 57 = .ok (.lreturn, 1) := by decide +kernel
theorem dX9_mixedWithBuffer_0 : decode cX9_mixedWithBuffer 0 = .ok (.lload_n 1, 1) := by decide +kernel
theorem dX9_mixedWithBuffer_1 : decode cX9_mixedWithBuffer 1 = .ok (.aload_n 0, 1) := by decide +kernel
theorem dX9_mixedWithBuffer_2 : decode cX9_mixedWithBuffer 2 = .ok (.getfield 36, 3) := by decide +kernel
theorem dX9_mixedWithBuffer_5 : decode cX9_mixedWithBuffer 5 = .ok (.getfield 170, 3) := by decide +kernel
theorem dX9_mixedWithBuffer_8 : decode cX9_mixedWithBuffer 8 = .ok (.i2l, 1) := by decide +kernel
theorem dX9_mixedWithBuffer_9 : decode cX9_mixedWithBuffer 9 = .ok (.invokestatic 270, 3) := by decide +kernel
theorem dX9_mixedWithBuffer_12 : decode cX9_mixedWithBuffer 12 = .ok (.lstore_n 3, 1) := by decide +kernel
theorem dX9_mixedWithBuffer_13 : decode cX9_mixedWithBuffer 13 = .ok (.iconst 0, 1) := by decide +kernel
theorem dX9_mixedWithBuffer_14 : decode cX9_mixedWithBuffer 14 = .ok (.istore 5, 2) := by decide +kernel
theorem dX9_mixedWithBuffer_16 : decode cX9_mixedWithBuffer 16 = .ok (.iload 5, 2) := by decide +kernel
theorem dX9_mixedWithBuffer_18 : decode cX9_mixedWithBuffer 18 = .ok (.aload_n 0, 1) := by decide +kernel
theorem dX9_mixedWithBuffer_19 : decode cX9_mixedWithBuffer 19 = .ok (.getfield 36, 3) := by decide +kernel
theorem dX9_mixedWithBuffer_22 : decode cX9_mixedWithBuffer 22 = .ok (.getfield 170, 3) := by decide +kernel
theorem dX9_mixedWithBuffer_25 : decode cX9_mixedWithBuffer 25 = .ok (.if_icmp .ge 27, 3) := by decide +kernel
theorem dX9_mixedWithBuffer_28 : decode cX9_mixedWithBuffer 28 = .ok (.lload_n 3, 1) := by decide +kernel
theorem dX9_mixedWithBuffer_29 : decode cX9_mixedWithBuffer 29 = .ok (.aload_n 0, 1) := by decide +kernel
theorem dX9_mixedWithBuffer_30 : decode cX9_mixedWithBuffer 30 = .ok (.getfield 36, 3) := by decide +kernel
theorem dX9_mixedWithBuffer_33 : decode cX9_mixedWithBuffer 33 = .ok (.getfield 358, 3) := by decide +kernel
theorem dX9_mixedWithBuffer_36 : decode cX9_mixedWithBuffer 36 = .ok (.iload 5, 2) := by decide +kernel
theorem dX9_mixedWithBuffer_38 : decode cX9_mixedWithBuffer 38 = .ok (.invokestatic 95, 3) := by decide +kernel
theorem dX9_mixedWithBuffer_41 : decode cX9_mixedWithBuffer 41 = .ok (.i2l, 1) := by decide +kernel
theorem dX9_mixedWithBuffer_42 : decode cX9_mixedWithBuffer 42 = .ok (.invokestatic 270, 3) := by decide +kernel
theorem dX9_mixedWithBuffer_45 : decode cX9_mixedWithBuffer 45 = .ok (.lstore_n 3, 1) := by decide +kernel
theorem dX9_mixedWithBuffer_46 : decode cX9_mixedWithBuffer 46 = .ok (.iinc 5 1, 3) := by decide +kernel
theorem dX9_mixedWithBuffer_49 : decode cX9_mixedWithBuffer 49 = .ok (.goto (-33), 3) := by decide +kernel
theorem dX9_mixedWithBuffer_52 : decode cX9_mixedWithBuffer 52 = .ok (.lload_n 3, 1) := by decide +kernel
theorem dX9_mixedWithBuffer_53 : decode cX9_mixedWithBuffer 53 = .ok (.lreturn, 1) := by decide +kernel
theorem dX10_init_0 : decode cX10_init 0 = .ok (.aload_n 0, 1) := by decide +kernel
theorem dX10_init_1 : decode cX10_init 1 = .ok (.invokespecial 1, 3) := by decide +kernel
theorem dX10_init_4 : decode cX10_init 4 = .ok (.aload_n 0, 1) := by decide +kernel
theorem dX10_init_5 : decode cX10_init 5 = .ok (.sipush 162, 3) := by decide +kernel
theorem dX10_init_8 : decode cX10_init 8 = .ok (.newarray .int, 2) := by decide +kernel
theorem dX10_init_10 : decode cX10_init 10 = .ok (.putfield 7, 3) := by decide +kernel
theorem dX10_init_13 : decode cX10_init 13 = .ok (.aload_n 0, 1) := by decide +kernel
theorem dX10_init_14 : decode cX10_init 14 = .ok (.sipush 972, 3) := by decide +kernel
theorem dX10_init_17 : decode cX10_init 17 = .ok (.newarray .int, 2) := by decide +kernel
theorem dX10_init_19 : decode cX10_init 19 = .ok (.putfield 13, 3) := by decide +kernel
theorem dX10_init_22 : decode cX10_init 22 = .ok (.aload_n 0, 1) := by decide +kernel
theorem dX10_init_23 : decode cX10_init 23 = .ok (.sipush 324, 3) := by decide +kernel
theorem dX10_init_26 : decode cX10_init 26 = .ok (.newarray .int, 2) := by decide +kernel
theorem dX10_init_28 : decode cX10_init 28 = .ok (.putfield 16, 3) := by decide +kernel
theorem dX10_init_31 : decode cX10_init 31 = .ok (.aload_n 0, 1) := by decide +kernel
theorem dX10_init_32 : decode cX10_init 32 = .ok (.iconst 2, 1) := by decide +kernel
theorem dX10_init_33 : decode cX10_init 33 = .ok (.newarray .boolean, 2) := by decide +kernel
theorem dX10_init_35 : decode cX10_init 35 = .ok (.putfield 19, 3) := by decide +kernel
theorem dX10_init_38 : decode cX10_init 38 = .ok (.aload_n 0, 1) := by decide +kernel
theorem dX10_init_39 : decode cX10_init 39 = .ok (.bipush 50, 2) := by decide +kernel
theorem dX10_init_41 : decode cX10_init 41 = .ok (.newarray .int, 2) := by decide +kernel
theorem dX10_init_43 : decode cX10_init 43 = .ok (.putfield 23, 3) := by decide +kernel
theorem dX10_init_46 : decode cX10_init 46 = .ok (.aload_n 0, 1) := by decide +kernel
theorem dX10_init_47 : decode cX10_init 47 = .ok (.bipush 8, 2) := by decide +kernel
theorem dX10_init_49 : decode cX10_init 49 = .ok (.newarray .int, 2) := by decide +kernel
theorem dX10_init_51 : decode cX10_init 51 = .ok (.putfield 26, 3) := by decide +kernel
theorem dX10_init_54 : decode cX10_init 54 = .ok (.aload_n 0, 1) := by decide +kernel
theorem dX10_init_55 : decode cX10_init 55 = .ok (.bipush 8, 2) := by decide +kernel
theorem dX10_init_57 : decode cX10_init 57 = .ok (.newarray .int, 2) := by decide +kernel
theorem dX10_init_59 : decode cX10_init 59 = .ok (.putfield 29, 3) := by decide +kernel
theorem dX10_init_62 : decode cX10_init 62 = .ok (.aload_n 0, 1) := by decide +kernel
theorem dX10_init_63 : decode cX10_init 63 = .ok (.bipush 8, 2) := by decide +kernel
theorem dX10_init_65 : decode cX10_init 65 = .ok (.newarray .int, 2) := by decide +kernel
theorem dX10_init_67 : decode cX10_init 67 = .ok (.putfield 32, 3) := by decide +kernel
theorem dX10_init_70 : decode cX10_init 70 = .ok (.aload_n 0, 1) := by decide +kernel
theorem dX10_init_71 : decode cX10_init 71 = .ok (.bipush 8, 2) := by decide +kernel
theorem dX10_init_73 : decode cX10_init 73 = .ok (.newarray .int, 2) := by decide +kernel
theorem dX10_init_75 : decode cX10_init 75 = .ok (.putfield 35, 3) := by decide +kernel
theorem dX10_init_78 : decode cX10_init 78 = .ok (.aload_n 0, 1) := by decide +kernel
theorem dX10_init_79 : decode cX10_init 79 = .ok (.iconst 0, 1) := by decide +kernel
theorem dX10_init_80 : decode cX10_init 80 = .ok (.putfield 38, 3) := by decide +kernel
theorem dX10_init_83 : decode cX10_init 83 = .ok (.aload_n 0, 1) := by decide +kernel
theorem dX10_init_84 : decode cX10_init 84 = .ok (.getfield 7, 3) := by decide +kernel
theorem dX10_init_87 : decode cX10_init 87 = .ok (.iconst 0, 1) := by decide +kernel
theorem dX10_init_88 : decode cX10_init 88 = .ok (.sipush 8000, 3) := by decide +kernel
theorem dX10_init_91 : decode cX10_init 91 = .ok (.iastore, 1) := by decide +kernel
theorem dX10_init_92 : decode cX10_init 92 = .ok (.aload_n 0, 1) := by decide +kernel
theorem dX10_init_93 : decode cX10_init 93 = .ok (.getfield 7, 3) := by decide +kernel
theorem dX10_init_96 : decode cX10_init 96 = .ok (.iconst 1, 1) := by decide +kernel
theorem dX10_init_97 : decode cX10_init 97 = .ok (.bipush 40, 2) := by decide +kernel
theorem dX10_init_99 : decode cX10_init 99 = .ok (.iastore, 1) := by decide +kernel
theorem dX10_init_100 : decode cX10_init 100 = .ok (.aload_n 0, 1) := by decide +kernel
theorem dX10_init_101 : decode cX10_init 101 = .ok (.getfield 7, 3) := by decide +kernel
theorem dX10_init_104 : decode cX10_init 104 = .ok (.iconst 3, 1) := by decide +kernel
theorem dX10_init_105 : decode cX10_init 105 = .ok (.bipush 50, 2) := by decide +kernel
theorem dX10_init_107 : decode cX10_init 107 = .ok (.iastore, 1) := by decide +kernel
theorem dX10_init_108 : decode cX10_init 108 = .ok (.aload_n 0, 1) := by decide +kernel
theorem dX10_init_109 : decode cX10_init 109 = .ok (.getfield 7, 3) := by decide +kernel
theorem dX10_init_112 : decode cX10_init 112 = .ok (.iconst 4, 1) := by decide +kernel
theorem dX10_init_113 : decode cX10_init 113 = .ok (.iconst 5, 1) := by decide +kernel
theorem dX10_init_114 : decode cX10_init 114 = .ok (.iastore, 1) := by decide +kernel
theorem dX10_init_115 : decode cX10_init 115 = .ok (.aload_n 0, 1) := by decide +kernel
theorem dX10_init_116 : decode cX10_init 116 = .ok (.getfield 7, 3) := by decide +kernel
theorem dX10_init_119 : decode cX10_init 119 = .ok (.iconst 5, 1) := by decide +kernel
theorem dX10_init_120 : decode cX10_init 120 = .ok (.bipush 100, 2) := by decide +kernel
theorem dX10_init_122 : decode cX10_init 122 = .ok (.iastore, 1) := by decide +kernel
theorem dX10_init_123 : decode cX10_init 123 = .ok (.aload_n 0, 1) := by decide +kernel
theorem dX10_init_124 : decode cX10_init 124 = .ok (.getfield 7, 3) := by decide +kernel
theorem dX10_init_127 : decode cX10_init 127 = .ok (.bipush 6, 2) := by decide +kernel
theorem dX10_init_129 : decode cX10_init 129 = .ok (.iconst 4, 1) := by decide +kernel
theorem dX10_init_130 : decode cX10_init 130 = .ok (.iastore, 1) := by decide +kernel
theorem dX10_init_131 : decode cX10_init 131 = .ok (.aload_n 0, 1) := by decide +kernel
theorem dX10_init_132 : decode cX10_init 132 = .ok (.invokevirtual 42, 3) := by decide +kernel
theorem dX10_init_135 : decode cX10_init 135 = .ok (.return_, 1) := by decide +kernel
theorem dX10_thrown_0 : decode cX10_thrown 0 = .ok (.aload_n 0, 1) := by decide +kernel
theorem dX10_thrown_1 : decode cX10_thrown 1 = .ok (.getfield 38, 3) := by decide +kernel
theorem dX10_thrown_4 : decode cX10_thrown 4 = .ok (.ireturn, 1) := by decide +kernel
theorem dX10_in_0 : decode cX10_in 0 = .ok (.iload_n 0, 1) := by decide +kernel
theorem dX10_in_1 : decode cX10_in 1 = .ok (.iload_n 1, 1) := by decide +kernel
theorem dX10_in_2 : decode cX10_in 2 = .ok (.if_icmp .lt 12, 3) := by decide +kernel
theorem dX10_in_5 : decode cX10_in 5 = .ok (.iload_n 0, 1) := by decide +kernel
theorem dX10_in_6 : decode cX10_in 6 = .ok (.iload_n 2, 1) := by decide +kernel
theorem dX10_in_7 : decode cX10_in 7 = .ok (.if_icmp .gt 7, 3) := by decide +kernel
theorem dX10_in_10 : decode cX10_in 10 = .ok (.iconst 1, 1) := by decide +kernel
theorem dX10_in_11 : decode cX10_in 11 = .ok (.goto 4, 3) := by decide +kernel
theorem dX10_in_14 : decode cX10_in 14 = .ok (.iconst 0, 1) := by decide +kernel
theorem dX10_in_15 : decode cX10_in 15 = .ok (.ireturn, 1) := by decide +kernel
theorem dX10_fails_0 : decode cX10_fails 0 = .ok (.aload_n 0, 1) := by decide +kernel
theorem dX10_fails_1 : decode cX10_fails 1 = .ok (.iload_n 1, 1) := by decide +kernel
theorem dX10_fails_2 : decode cX10_fails 2 = .ok (.putfield 38, 3) := by decide +kernel
theorem dX10_fails_5 : decode cX10_fails 5 = .ok (.iconst 0, 1) := by decide +kernel
theorem dX10_fails_6 : decode cX10_fails 6 = .ok (.ireturn, 1) := by decide +kernel
theorem dX10_of_0 : decode cX10_of 0 = .ok (.aload_n 0, 1) := by decide +kernel
theorem dX10_of_1 : decode cX10_of 1 = .ok (.getfield 7, 3) := by decide +kernel
theorem dX10_of_4 : decode cX10_of 4 = .ok (.bipush 10, 2) := by decide +kernel
theorem dX10_of_6 : decode cX10_of 6 = .ok (.iconst 4, 1) := by decide +kernel
theorem dX10_of_7 : decode cX10_of 7 = .ok (.iload_n 1, 1) := by decide +kernel
theorem dX10_of_8 : decode cX10_of 8 = .ok (.imul, 1) := by decide +kernel
theorem dX10_of_9 : decode cX10_of 9 = .ok (.iadd, 1) := by decide +kernel
theorem dX10_of_10 : decode cX10_of 10 = .ok (.iload_n 2, 1) := by decide +kernel
theorem dX10_of_11 : decode cX10_of 11 = .ok (.iadd, 1) := by decide +kernel
theorem dX10_of_12 : decode cX10_of 12 = .ok (.iaload, 1) := by decide +kernel
theorem dX10_of_13 : decode cX10_of 13 = .ok (.ireturn, 1) := by decide +kernel
theorem dX10_lay_0 : decode cX10_lay 0 = .ok (.aload_n 0, 1) := by decide +kernel
theorem dX10_lay_1 : decode cX10_lay 1 = .ok (.getfield 7, 3) := by decide +kernel
theorem dX10_lay_4 : decode cX10_lay 4 = .ok (.bipush 10, 2) := by decide +kernel
theorem dX10_lay_6 : decode cX10_lay 6 = .ok (.iconst 4, 1) := by decide +kernel
theorem dX10_lay_7 : decode cX10_lay 7 = .ok (.iload_n 1, 1) := by decide +kernel
theorem dX10_lay_8 : decode cX10_lay 8 = .ok (.imul, 1) := by decide +kernel
theorem dX10_lay_9 : decode cX10_lay 9 = .ok (.iadd, 1) := by decide +kernel
theorem dX10_lay_10 : decode cX10_lay 10 = .ok (.iload_n 2, 1) := by decide +kernel
theorem dX10_lay_11 : decode cX10_lay 11 = .ok (.iadd, 1) := by decide +kernel
theorem dX10_lay_12 : decode cX10_lay 12 = .ok (.iload_n 3, 1) := by decide +kernel
theorem dX10_lay_13 : decode cX10_lay 13 = .ok (.iastore, 1) := by decide +kernel
theorem dX10_lay_14 : decode cX10_lay 14 = .ok (.return_, 1) := by decide +kernel
theorem dX10_ofReading_0 : decode cX10_ofReading 0 = .ok (.aload_n 0, 1) := by decide +kernel
theorem dX10_ofReading_1 : decode cX10_ofReading 1 = .ok (.getfield 7, 3) := by decide +kernel
theorem dX10_ofReading_4 : decode cX10_ofReading 4 = .ok (.bipush 42, 2) := by decide +kernel
theorem dX10_ofReading_6 : decode cX10_ofReading 6 = .ok (.bipush 10, 2) := by decide +kernel
theorem dX10_ofReading_8 : decode cX10_ofReading 8 = .ok (.iload_n 1, 1) := by decide +kernel
theorem dX10_ofReading_9 : decode cX10_ofReading 9 = .ok (.imul, 1) := by decide +kernel
theorem dX10_ofReading_10 : decode cX10_ofReading 10 = .ok (.iadd, 1) := by decide +kernel
theorem dX10_ofReading_11 : decode cX10_ofReading 11 = .ok (.iload_n 2, 1) := by decide +kernel
theorem dX10_ofReading_12 : decode cX10_ofReading 12 = .ok (.iadd, 1) := by decide +kernel
theorem dX10_ofReading_13 : decode cX10_ofReading 13 = .ok (.iaload, 1) := by decide +kernel
theorem dX10_ofReading_14 : decode cX10_ofReading 14 = .ok (.ireturn, 1) := by decide +kernel
theorem dX10_isHole_0 : decode cX10_isHole 0 = .ok (.iload_n 1, 1) := by decide +kernel
theorem dX10_isHole_1 : decode cX10_isHole 1 = .ok (.iconst 0, 1) := by decide +kernel
theorem dX10_isHole_2 : decode cX10_isHole 2 = .ok (.aload_n 0, 1) := by decide +kernel
theorem dX10_isHole_3 : decode cX10_isHole 3 = .ok (.getfield 7, 3) := by decide +kernel
theorem dX10_isHole_6 : decode cX10_isHole 6 = .ok (.bipush 6, 2) := by decide +kernel
theorem dX10_isHole_8 : decode cX10_isHole 8 = .ok (.iaload, 1) := by decide +kernel
theorem dX10_isHole_9 : decode cX10_isHole 9 = .ok (.iconst 1, 1) := by decide +kernel
theorem dX10_isHole_10 : decode cX10_isHole 10 = .ok (.isub, 1) := by decide +kernel
theorem dX10_isHole_11 : decode cX10_isHole 11 = .ok (.invokestatic 45, 3) := by decide +kernel
theorem dX10_isHole_14 : decode cX10_isHole 14 = .ok (.ireturn, 1) := by decide +kernel
theorem dX10_clearsHoles_0 : decode cX10_clearsHoles 0 = .ok (.iconst 0, 1) := by decide +kernel
theorem dX10_clearsHoles_1 : decode cX10_clearsHoles 1 = .ok (.istore_n 1, 1) := by decide +kernel
theorem dX10_clearsHoles_2 : decode cX10_clearsHoles 2 = .ok (.iload_n 1, 1) := by decide +kernel
theorem dX10_clearsHoles_3 : decode cX10_clearsHoles 3 = .ok (.bipush 8, 2) := by decide +kernel
theorem dX10_clearsHoles_5 : decode cX10_clearsHoles 5 = .ok (.if_icmp .ge 38, 3) := by decide +kernel
theorem dX10_clearsHoles_8 : decode cX10_clearsHoles 8 = .ok (.aload_n 0, 1) := by decide +kernel
theorem dX10_clearsHoles_9 : decode cX10_clearsHoles 9 = .ok (.iload_n 1, 1) := by decide +kernel
theorem dX10_clearsHoles_10 : decode cX10_clearsHoles 10 = .ok (.iconst 0, 1) := by decide +kernel
theorem dX10_clearsHoles_11 : decode cX10_clearsHoles 11 = .ok (.bipush 100, 2) := by decide +kernel
theorem dX10_clearsHoles_13 : decode cX10_clearsHoles 13 = .ok (.invokevirtual 49, 3) := by decide +kernel
theorem dX10_clearsHoles_16 : decode cX10_clearsHoles 16 = .ok (.aload_n 0, 1) := by decide +kernel
theorem dX10_clearsHoles_17 : decode cX10_clearsHoles 17 = .ok (.iload_n 1, 1) := by decide +kernel
theorem dX10_clearsHoles_18 : decode cX10_clearsHoles 18 = .ok (.iconst 1, 1) := by decide +kernel
theorem dX10_clearsHoles_19 : decode cX10_clearsHoles 19 = .ok (.iconst 0, 1) := by decide +kernel
theorem dX10_clearsHoles_20 : decode cX10_clearsHoles 20 = .ok (.invokevirtual 49, 3) := by decide +kernel
theorem dX10_clearsHoles_23 : decode cX10_clearsHoles 23 = .ok (.aload_n 0, 1) := by decide +kernel
theorem dX10_clearsHoles_24 : decode cX10_clearsHoles 24 = .ok (.iload_n 1, 1) := by decide +kernel
theorem dX10_clearsHoles_25 : decode cX10_clearsHoles 25 = .ok (.iconst 2, 1) := by decide +kernel
theorem dX10_clearsHoles_26 : decode cX10_clearsHoles 26 = .ok (.iconst 0, 1) := by decide +kernel
theorem dX10_clearsHoles_27 : decode cX10_clearsHoles 27 = .ok (.invokevirtual 49, 3) := by decide +kernel
theorem dX10_clearsHoles_30 : decode cX10_clearsHoles 30 = .ok (.aload_n 0, 1) := by decide +kernel
theorem dX10_clearsHoles_31 : decode cX10_clearsHoles 31 = .ok (.iload_n 1, 1) := by decide +kernel
theorem dX10_clearsHoles_32 : decode cX10_clearsHoles 32 = .ok (.iconst 3, 1) := by decide +kernel
theorem dX10_clearsHoles_33 : decode cX10_clearsHoles 33 = .ok (.iconst 0, 1) := by decide +kernel
theorem dX10_clearsHoles_34 : decode cX10_clearsHoles 34 = .ok (.invokevirtual 49, 3) := by decide +kernel
theorem dX10_clearsHoles_37 : decode cX10_clearsHoles 37 = .ok (.iinc 1 1, 3) := by decide +kernel
theorem dX10_clearsHoles_40 : decode cX10_clearsHoles 40 = .ok (.goto (-38), 3) := by decide +kernel
theorem dX10_clearsHoles_43 : decode cX10_clearsHoles 43 = .ok (.return_, 1) := by decide +kernel
theorem dX10_saves_0 : decode cX10_saves 0 = .ok (.aload_n 0, 1) := by decide +kernel
theorem dX10_saves_1 : decode cX10_saves 1 = .ok (.getfield 53, 3) := by decide +kernel
theorem dX10_saves_4 : decode cX10_saves 4 = .ok (.bipush 6, 2) := by decide +kernel
theorem dX10_saves_6 : decode cX10_saves 6 = .ok (.if_icmp .ne 44, 3) := by decide +kernel
theorem dX10_saves_9 : decode cX10_saves 9 = .ok (.iconst 0, 1) := by decide +kernel
theorem dX10_saves_10 : decode cX10_saves 10 = .ok (.istore_n 1, 1) := by decide +kernel
theorem dX10_saves_11 : decode cX10_saves 11 = .ok (.iload_n 1, 1) := by decide +kernel
theorem dX10_saves_12 : decode cX10_saves 12 = .ok (.sipush 810, 3) := by decide +kernel
theorem dX10_saves_15 : decode cX10_saves 15 = .ok (.if_icmp .ge 25, 3) := by decide +kernel
theorem dX10_saves_18 : decode cX10_saves 18 = .ok (.aload_n 0, 1) := by decide +kernel
theorem dX10_saves_19 : decode cX10_saves 19 = .ok (.getfield 13, 3) := by decide +kernel
theorem dX10_saves_22 : decode cX10_saves 22 = .ok (.iload_n 1, 1) := by decide +kernel
theorem dX10_saves_23 : decode cX10_saves 23 = .ok (.aload_n 0, 1) := by decide +kernel
theorem dX10_saves_24 : decode cX10_saves 24 = .ok (.getfield 13, 3) := by decide +kernel
theorem dX10_saves_27 : decode cX10_saves 27 = .ok (.iload_n 1, 1) := by decide +kernel
theorem dX10_saves_28 : decode cX10_saves 28 = .ok (.sipush 162, 3) := by decide +kernel
theorem dX10_saves_31 : decode cX10_saves 31 = .ok (.iadd, 1) := by decide +kernel
theorem dX10_saves_32 : decode cX10_saves 32 = .ok (.iaload, 1) := by decide +kernel
theorem dX10_saves_33 : decode cX10_saves 33 = .ok (.iastore, 1) := by decide +kernel
theorem dX10_saves_34 : decode cX10_saves 34 = .ok (.iinc 1 1, 3) := by decide +kernel
theorem dX10_saves_37 : decode cX10_saves 37 = .ok (.goto (-26), 3) := by decide +kernel
theorem dX10_saves_40 : decode cX10_saves 40 = .ok (.aload_n 0, 1) := by decide +kernel
theorem dX10_saves_41 : decode cX10_saves 41 = .ok (.dup, 1) := by decide +kernel
theorem dX10_saves_42 : decode cX10_saves 42 = .ok (.getfield 53, 3) := by decide +kernel
theorem dX10_saves_45 : decode cX10_saves 45 = .ok (.iconst 1, 1) := by decide +kernel
theorem dX10_saves_46 : decode cX10_saves 46 = .ok (.isub, 1) := by decide +kernel
theorem dX10_saves_47 : decode cX10_saves 47 = .ok (.putfield 53, 3) := by decide +kernel
theorem dX10_saves_50 : decode cX10_saves 50 = .ok (.iconst 0, 1) := by decide +kernel
theorem dX10_saves_51 : decode cX10_saves 51 = .ok (.istore_n 1, 1) := by decide +kernel
theorem dX10_saves_52 : decode cX10_saves 52 = .ok (.iload_n 1, 1) := by decide +kernel
theorem dX10_saves_53 : decode cX10_saves 53 = .ok (.sipush 162, 3) := by decide +kernel
theorem dX10_saves_56 : decode cX10_saves 56 = .ok (.if_icmp .ge 30, 3) := by decide +kernel
theorem dX10_saves_59 : decode cX10_saves 59 = .ok (.aload_n 0, 1) := by decide +kernel
theorem dX10_saves_60 : decode cX10_saves 60 = .ok (.getfield 13, 3) := by decide +kernel
theorem dX10_saves_63 : decode cX10_saves 63 = .ok (.sipush 162, 3) := by decide +kernel
theorem dX10_saves_66 : decode cX10_saves 66 = .ok (.aload_n 0, 1) := by decide +kernel
theorem dX10_saves_67 : decode cX10_saves 67 = .ok (.getfield 53, 3) := by decide +kernel
theorem dX10_saves_70 : decode cX10_saves 70 = .ok (.imul, 1) := by decide +kernel
theorem dX10_saves_71 : decode cX10_saves 71 = .ok (.iload_n 1, 1) := by decide +kernel
theorem dX10_saves_72 : decode cX10_saves 72 = .ok (.iadd, 1) := by decide +kernel
theorem dX10_saves_73 : decode cX10_saves 73 = .ok (.aload_n 0, 1) := by decide +kernel
theorem dX10_saves_74 : decode cX10_saves 74 = .ok (.getfield 7, 3) := by decide +kernel
theorem dX10_saves_77 : decode cX10_saves 77 = .ok (.iload_n 1, 1) := by decide +kernel
theorem dX10_saves_78 : decode cX10_saves 78 = .ok (.iaload, 1) := by decide +kernel
theorem dX10_saves_79 : decode cX10_saves 79 = .ok (.iastore, 1) := by decide +kernel
theorem dX10_saves_80 : decode cX10_saves 80 = .ok (.iinc 1 1, 3) := by decide +kernel
theorem dX10_saves_83 : decode cX10_saves 83 = .ok (.goto (-31), 3) := by decide +kernel
theorem dX10_saves_86 : decode cX10_saves 86 = .ok (.aload_n 0, 1) := by decide +kernel
theorem dX10_saves_87 : decode cX10_saves 87 = .ok (.dup, 1) := by decide +kernel
theorem dX10_saves_88 : decode cX10_saves 88 = .ok (.getfield 53, 3) := by decide +kernel
theorem dX10_saves_91 : decode cX10_saves 91 = .ok (.iconst 1, 1) := by decide +kernel
theorem dX10_saves_92 : decode cX10_saves 92 = .ok (.iadd, 1) := by decide +kernel
theorem dX10_saves_93 : decode cX10_saves 93 = .ok (.putfield 53, 3) := by decide +kernel
theorem dX10_saves_96 : decode cX10_saves 96 = .ok (.return_, 1) := by decide +kernel
theorem dX10_root_0 : decode cX10_root 0 = .ok (.iconst 0, 1) := by decide +kernel
theorem dX10_root_1 : decode cX10_root 1 = .ok (.istore_n 1, 1) := by decide +kernel
theorem dX10_root_2 : decode cX10_root 2 = .ok (.ldc 56, 2) := by decide +kernel
theorem dX10_root_4 : decode cX10_root 4 = .ok (.istore_n 2, 1) := by decide +kernel
theorem dX10_root_5 : decode cX10_root 5 = .ok (.iload_n 1, 1) := by decide +kernel
theorem dX10_root_6 : decode cX10_root 6 = .ok (.iload_n 2, 1) := by decide +kernel
theorem dX10_root_7 : decode cX10_root 7 = .ok (.if_icmp .ge 52, 3) := by decide +kernel
theorem dX10_root_10 : decode cX10_root 10 = .ok (.iload_n 1, 1) := by decide +kernel
theorem dX10_root_11 : decode cX10_root 11 = .ok (.iload_n 2, 1) := by decide +kernel
theorem dX10_root_12 : decode cX10_root 12 = .ok (.iadd, 1) := by decide +kernel
theorem dX10_root_13 : decode cX10_root 13 = .ok (.iconst 1, 1) := by decide +kernel
theorem dX10_root_14 : decode cX10_root 14 = .ok (.iadd, 1) := by decide +kernel
theorem dX10_root_15 : decode cX10_root 15 = .ok (.iconst 2, 1) := by decide +kernel
theorem dX10_root_16 : decode cX10_root 16 = .ok (.idiv, 1) := by decide +kernel
theorem dX10_root_17 : decode cX10_root 17 = .ok (.istore_n 3, 1) := by decide +kernel
theorem dX10_root_18 : decode cX10_root 18 = .ok (.iload_n 3, 1) := by decide +kernel
theorem dX10_root_19 : decode cX10_root 19 = .ok (.iload_n 3, 1) := by decide +kernel
theorem dX10_root_20 : decode cX10_root 20 = .ok (.imul, 1) := by decide +kernel
theorem dX10_root_21 : decode cX10_root 21 = .ok (.iload_n 0, 1) := by decide +kernel
theorem dX10_root_22 : decode cX10_root 22 = .ok (.if_icmp .gt 7, 3) := by decide +kernel
theorem dX10_root_25 : decode cX10_root 25 = .ok (.iconst 1, 1) := by decide +kernel
theorem dX10_root_26 : decode cX10_root 26 = .ok (.goto 4, 3) := by decide +kernel
theorem dX10_root_29 : decode cX10_root 29 = .ok (.iconst 0, 1) := by decide +kernel
theorem dX10_root_30 : decode cX10_root 30 = .ok (.istore 4, 2) := by decide +kernel
theorem dX10_root_32 : decode cX10_root 32 = .ok (.iload 4, 2) := by decide +kernel
theorem dX10_root_34 : decode cX10_root 34 = .ok (.ifCond .eq 7, 3) := by decide +kernel
theorem dX10_root_37 : decode cX10_root 37 = .ok (.iload_n 3, 1) := by decide +kernel
theorem dX10_root_38 : decode cX10_root 38 = .ok (.goto 4, 3) := by decide +kernel
theorem dX10_root_41 : decode cX10_root 41 = .ok (.iload_n 1, 1) := by decide +kernel
theorem dX10_root_42 : decode cX10_root 42 = .ok (.istore_n 1, 1) := by decide +kernel
theorem dX10_root_43 : decode cX10_root 43 = .ok (.iload 4, 2) := by decide +kernel
theorem dX10_root_45 : decode cX10_root 45 = .ok (.ifCond .eq 7, 3) := by decide +kernel
theorem dX10_root_48 : decode cX10_root 48 = .ok (.iload_n 2, 1) := by decide +kernel
theorem dX10_root_49 : decode cX10_root 49 = .ok (.goto 6, 3) := by decide +kernel
theorem dX10_root_52 : decode cX10_root 52 = .ok (.iload_n 3, 1) := by decide +kernel
theorem dX10_root_53 : decode cX10_root 53 = .ok (.iconst 1, 1) := by decide +kernel
theorem dX10_root_54 : decode cX10_root 54 = .ok (.isub, 1) := by decide +kernel
theorem dX10_root_55 : decode cX10_root 55 = .ok (.istore_n 2, 1) := by decide +kernel
theorem dX10_root_56 : decode cX10_root 56 = .ok (.goto (-51), 3) := by decide +kernel
theorem dX10_root_59 : decode cX10_root 59 = .ok (.iload_n 1, 1) := by decide +kernel
theorem dX10_root_60 : decode cX10_root 60 = .ok (.ireturn, 1) := by decide +kernel
theorem dX10_distance_0 : decode cX10_distance 0 = .ok (.aload_n 0, 1) := by decide +kernel
theorem dX10_distance_1 : decode cX10_distance 1 = .ok (.getfield 7, 3) := by decide +kernel
theorem dX10_distance_4 : decode cX10_distance 4 = .ok (.iconst 5, 1) := by decide +kernel
theorem dX10_distance_5 : decode cX10_distance 5 = .ok (.iaload, 1) := by decide +kernel
theorem dX10_distance_6 : decode cX10_distance 6 = .ok (.aload_n 0, 1) := by decide +kernel
theorem dX10_distance_7 : decode cX10_distance 7 = .ok (.getfield 7, 3) := by decide +kernel
theorem dX10_distance_10 : decode cX10_distance 10 = .ok (.iconst 5, 1) := by decide +kernel
theorem dX10_distance_11 : decode cX10_distance 11 = .ok (.iaload, 1) := by decide +kernel
theorem dX10_distance_12 : decode cX10_distance 12 = .ok (.imul, 1) := by decide +kernel
theorem dX10_distance_13 : decode cX10_distance 13 = .ok (.iconst 2, 1) := by decide +kernel
theorem dX10_distance_14 : decode cX10_distance 14 = .ok (.iload_n 1, 1) := by decide +kernel
theorem dX10_distance_15 : decode cX10_distance 15 = .ok (.imul, 1) := by decide +kernel
theorem dX10_distance_16 : decode cX10_distance 16 = .ok (.iconst 1, 1) := by decide +kernel
theorem dX10_distance_17 : decode cX10_distance 17 = .ok (.iadd, 1) := by decide +kernel
theorem dX10_distance_18 : decode cX10_distance 18 = .ok (.imul, 1) := by decide +kernel
theorem dX10_distance_19 : decode cX10_distance 19 = .ok (.iconst 2, 1) := by decide +kernel
theorem dX10_distance_20 : decode cX10_distance 20 = .ok (.iload_n 2, 1) := by decide +kernel
theorem dX10_distance_21 : decode cX10_distance 21 = .ok (.imul, 1) := by decide +kernel
theorem dX10_distance_22 : decode cX10_distance 22 = .ok (.idiv, 1) := by decide +kernel
theorem dX10_distance_23 : decode cX10_distance 23 = .ok (.invokestatic 57, 3) := by decide +kernel
theorem dX10_distance_26 : decode cX10_distance 26 = .ok (.ireturn, 1) := by decide +kernel
theorem dX10_trueSpeed_0 : decode cX10_trueSpeed 0 = .ok (.aload_n 0, 1) := by decide +kernel
theorem dX10_trueSpeed_1 : decode cX10_trueSpeed 1 = .ok (.iload_n 1, 1) := by decide +kernel
theorem dX10_trueSpeed_2 : decode cX10_trueSpeed 2 = .ok (.iload_n 2, 1) := by decide +kernel
theorem dX10_trueSpeed_3 : decode cX10_trueSpeed 3 = .ok (.invokevirtual 61, 3) := by decide +kernel
theorem dX10_trueSpeed_6 : decode cX10_trueSpeed 6 = .ok (.istore_n 3, 1) := by decide +kernel
theorem dX10_trueSpeed_7 : decode cX10_trueSpeed 7 = .ok (.aload_n 0, 1) := by decide +kernel
theorem dX10_trueSpeed_8 : decode cX10_trueSpeed 8 = .ok (.getfield 7, 3) := by decide +kernel
theorem dX10_trueSpeed_11 : decode cX10_trueSpeed 11 = .ok (.iconst 0, 1) := by decide +kernel
theorem dX10_trueSpeed_12 : decode cX10_trueSpeed 12 = .ok (.iaload, 1) := by decide +kernel
theorem dX10_trueSpeed_13 : decode cX10_trueSpeed 13 = .ok (.aload_n 0, 1) := by decide +kernel
theorem dX10_trueSpeed_14 : decode cX10_trueSpeed 14 = .ok (.getfield 7, 3) := by decide +kernel
theorem dX10_trueSpeed_17 : decode cX10_trueSpeed 17 = .ok (.iconst 0, 1) := by decide +kernel
theorem dX10_trueSpeed_18 : decode cX10_trueSpeed 18 = .ok (.iaload, 1) := by decide +kernel
theorem dX10_trueSpeed_19 : decode cX10_trueSpeed 19 = .ok (.aload_n 0, 1) := by decide +kernel
theorem dX10_trueSpeed_20 : decode cX10_trueSpeed 20 = .ok (.getfield 7, 3) := by decide +kernel
theorem dX10_trueSpeed_23 : decode cX10_trueSpeed 23 = .ok (.iconst 1, 1) := by decide +kernel
theorem dX10_trueSpeed_24 : decode cX10_trueSpeed 24 = .ok (.iaload, 1) := by decide +kernel
theorem dX10_trueSpeed_25 : decode cX10_trueSpeed 25 = .ok (.imul, 1) := by decide +kernel
theorem dX10_trueSpeed_26 : decode cX10_trueSpeed 26 = .ok (.iload_n 3, 1) := by decide +kernel
theorem dX10_trueSpeed_27 : decode cX10_trueSpeed 27 = .ok (.imul, 1) := by decide +kernel
theorem dX10_trueSpeed_28 : decode cX10_trueSpeed 28 = .ok (.bipush 100, 2) := by decide +kernel
theorem dX10_trueSpeed_30 : decode cX10_trueSpeed 30 = .ok (.aload_n 0, 1) := by decide +kernel
theorem dX10_trueSpeed_31 : decode cX10_trueSpeed 31 = .ok (.getfield 7, 3) := by decide +kernel
theorem dX10_trueSpeed_34 : decode cX10_trueSpeed 34 = .ok (.iconst 5, 1) := by decide +kernel
theorem dX10_trueSpeed_35 : decode cX10_trueSpeed 35 = .ok (.iaload, 1) := by decide +kernel
theorem dX10_trueSpeed_36 : decode cX10_trueSpeed 36 = .ok (.imul, 1) := by decide +kernel
theorem dX10_trueSpeed_37 : decode cX10_trueSpeed 37 = .ok (.idiv, 1) := by decide +kernel
theorem dX10_trueSpeed_38 : decode cX10_trueSpeed 38 = .ok (.isub, 1) := by decide +kernel
theorem dX10_trueSpeed_39 : decode cX10_trueSpeed 39 = .ok (.aload_n 0, 1) := by decide +kernel
theorem dX10_trueSpeed_40 : decode cX10_trueSpeed 40 = .ok (.getfield 7, 3) := by decide +kernel
theorem dX10_trueSpeed_43 : decode cX10_trueSpeed 43 = .ok (.iconst 2, 1) := by decide +kernel
theorem dX10_trueSpeed_44 : decode cX10_trueSpeed 44 = .ok (.iaload, 1) := by decide +kernel
theorem dX10_trueSpeed_45 : decode cX10_trueSpeed 45 = .ok (.iload_n 3, 1) := by decide +kernel
theorem dX10_trueSpeed_46 : decode cX10_trueSpeed 46 = .ok (.imul, 1) := by decide +kernel
theorem dX10_trueSpeed_47 : decode cX10_trueSpeed 47 = .ok (.aload_n 0, 1) := by decide +kernel
theorem dX10_trueSpeed_48 : decode cX10_trueSpeed 48 = .ok (.getfield 7, 3) := by decide +kernel
theorem dX10_trueSpeed_51 : decode cX10_trueSpeed 51 = .ok (.iconst 5, 1) := by decide +kernel
theorem dX10_trueSpeed_52 : decode cX10_trueSpeed 52 = .ok (.iaload, 1) := by decide +kernel
theorem dX10_trueSpeed_53 : decode cX10_trueSpeed 53 = .ok (.idiv, 1) := by decide +kernel
theorem dX10_trueSpeed_54 : decode cX10_trueSpeed 54 = .ok (.iadd, 1) := by decide +kernel
theorem dX10_trueSpeed_55 : decode cX10_trueSpeed 55 = .ok (.ireturn, 1) := by decide +kernel
theorem dX10_trueHead_0 : decode cX10_trueHead 0 = .ok (.aload_n 0, 1) := by decide +kernel
theorem dX10_trueHead_1 : decode cX10_trueHead 1 = .ok (.iload_n 1, 1) := by decide +kernel
theorem dX10_trueHead_2 : decode cX10_trueHead 2 = .ok (.aload_n 0, 1) := by decide +kernel
theorem dX10_trueHead_3 : decode cX10_trueHead 3 = .ok (.getfield 7, 3) := by decide +kernel
theorem dX10_trueHead_6 : decode cX10_trueHead 6 = .ok (.bipush 6, 2) := by decide +kernel
theorem dX10_trueHead_8 : decode cX10_trueHead 8 = .ok (.iaload, 1) := by decide +kernel
theorem dX10_trueHead_9 : decode cX10_trueHead 9 = .ok (.invokevirtual 65, 3) := by decide +kernel
theorem dX10_trueHead_12 : decode cX10_trueHead 12 = .ok (.istore_n 2, 1) := by decide +kernel
theorem dX10_trueHead_13 : decode cX10_trueHead 13 = .ok (.iload_n 2, 1) := by decide +kernel
theorem dX10_trueHead_14 : decode cX10_trueHead 14 = .ok (.iload_n 2, 1) := by decide +kernel
theorem dX10_trueHead_15 : decode cX10_trueHead 15 = .ok (.imul, 1) := by decide +kernel
theorem dX10_trueHead_16 : decode cX10_trueHead 16 = .ok (.sipush 10000, 3) := by decide +kernel
theorem dX10_trueHead_19 : decode cX10_trueHead 19 = .ok (.idiv, 1) := by decide +kernel
theorem dX10_trueHead_20 : decode cX10_trueHead 20 = .ok (.ireturn, 1) := by decide +kernel
theorem dX10_felt_0 : decode cX10_felt 0 = .ok (.aload_n 0, 1) := by decide +kernel
theorem dX10_felt_1 : decode cX10_felt 1 = .ok (.iload_n 1, 1) := by decide +kernel
theorem dX10_felt_2 : decode cX10_felt 2 = .ok (.invokevirtual 68, 3) := by decide +kernel
theorem dX10_felt_5 : decode cX10_felt 5 = .ok (.aload_n 0, 1) := by decide +kernel
theorem dX10_felt_6 : decode cX10_felt 6 = .ok (.iload_n 1, 1) := by decide +kernel
theorem dX10_felt_7 : decode cX10_felt 7 = .ok (.iconst 0, 1) := by decide +kernel
theorem dX10_felt_8 : decode cX10_felt 8 = .ok (.invokevirtual 71, 3) := by decide +kernel
theorem dX10_felt_11 : decode cX10_felt 11 = .ok (.imul, 1) := by decide +kernel
theorem dX10_felt_12 : decode cX10_felt 12 = .ok (.bipush 100, 2) := by decide +kernel
theorem dX10_felt_14 : decode cX10_felt 14 = .ok (.idiv, 1) := by decide +kernel
theorem dX10_felt_15 : decode cX10_felt 15 = .ok (.istore_n 2, 1) := by decide +kernel
theorem dX10_felt_16 : decode cX10_felt 16 = .ok (.iload_n 2, 1) := by decide +kernel
theorem dX10_felt_17 : decode cX10_felt 17 = .ok (.iload_n 2, 1) := by decide +kernel
theorem dX10_felt_18 : decode cX10_felt 18 = .ok (.aload_n 0, 1) := by decide +kernel
theorem dX10_felt_19 : decode cX10_felt 19 = .ok (.iload_n 1, 1) := by decide +kernel
theorem dX10_felt_20 : decode cX10_felt 20 = .ok (.iconst 1, 1) := by decide +kernel
theorem dX10_felt_21 : decode cX10_felt 21 = .ok (.invokevirtual 71, 3) := by decide +kernel
theorem dX10_felt_24 : decode cX10_felt 24 = .ok (.imul, 1) := by decide +kernel
theorem dX10_felt_25 : decode cX10_felt 25 = .ok (.bipush 100, 2) := by decide +kernel
theorem dX10_felt_27 : decode cX10_felt 27 = .ok (.idiv, 1) := by decide +kernel
theorem dX10_felt_28 : decode cX10_felt 28 = .ok (.isub, 1) := by decide +kernel
theorem dX10_felt_29 : decode cX10_felt 29 = .ok (.ireturn, 1) := by decide +kernel
theorem dX10_ringFlow_0 : decode cX10_ringFlow 0 = .ok (.iload_n 1, 1) := by decide +kernel
theorem dX10_ringFlow_1 : decode cX10_ringFlow 1 = .ok (.aload_n 0, 1) := by decide +kernel
theorem dX10_ringFlow_2 : decode cX10_ringFlow 2 = .ok (.getfield 7, 3) := by decide +kernel
theorem dX10_ringFlow_5 : decode cX10_ringFlow 5 = .ok (.iconst 5, 1) := by decide +kernel
theorem dX10_ringFlow_6 : decode cX10_ringFlow 6 = .ok (.iaload, 1) := by decide +kernel
theorem dX10_ringFlow_7 : decode cX10_ringFlow 7 = .ok (.aload_n 0, 1) := by decide +kernel
theorem dX10_ringFlow_8 : decode cX10_ringFlow 8 = .ok (.getfield 7, 3) := by decide +kernel
theorem dX10_ringFlow_11 : decode cX10_ringFlow 11 = .ok (.iconst 5, 1) := by decide +kernel
theorem dX10_ringFlow_12 : decode cX10_ringFlow 12 = .ok (.iaload, 1) := by decide +kernel
theorem dX10_ringFlow_13 : decode cX10_ringFlow 13 = .ok (.imul, 1) := by decide +kernel
theorem dX10_ringFlow_14 : decode cX10_ringFlow 14 = .ok (.bipush 100, 2) := by decide +kernel
theorem dX10_ringFlow_16 : decode cX10_ringFlow 16 = .ok (.idiv, 1) := by decide +kernel
theorem dX10_ringFlow_17 : decode cX10_ringFlow 17 = .ok (.imul, 1) := by decide +kernel
theorem dX10_ringFlow_18 : decode cX10_ringFlow 18 = .ok (.iload_n 2, 1) := by decide +kernel
theorem dX10_ringFlow_19 : decode cX10_ringFlow 19 = .ok (.idiv, 1) := by decide +kernel
theorem dX10_ringFlow_20 : decode cX10_ringFlow 20 = .ok (.ireturn, 1) := by decide +kernel
theorem dX10_trueFlow_0 : decode cX10_trueFlow 0 = .ok (.iconst 0, 1) := by decide +kernel
theorem dX10_trueFlow_1 : decode cX10_trueFlow 1 = .ok (.istore_n 2, 1) := by decide +kernel
theorem dX10_trueFlow_2 : decode cX10_trueFlow 2 = .ok (.iconst 0, 1) := by decide +kernel
theorem dX10_trueFlow_3 : decode cX10_trueFlow 3 = .ok (.istore_n 3, 1) := by decide +kernel
theorem dX10_trueFlow_4 : decode cX10_trueFlow 4 = .ok (.iload_n 3, 1) := by decide +kernel
theorem dX10_trueFlow_5 : decode cX10_trueFlow 5 = .ok (.iload_n 1, 1) := by decide +kernel
theorem dX10_trueFlow_6 : decode cX10_trueFlow 6 = .ok (.if_icmp .ge 23, 3) := by decide +kernel
theorem dX10_trueFlow_9 : decode cX10_trueFlow 9 = .ok (.iload_n 2, 1) := by decide +kernel
theorem dX10_trueFlow_10 : decode cX10_trueFlow 10 = .ok (.aload_n 0, 1) := by decide +kernel
theorem dX10_trueFlow_11 : decode cX10_trueFlow 11 = .ok (.aload_n 0, 1) := by decide +kernel
theorem dX10_trueFlow_12 : decode cX10_trueFlow 12 = .ok (.iload_n 3, 1) := by decide +kernel
theorem dX10_trueFlow_13 : decode cX10_trueFlow 13 = .ok (.iload_n 1, 1) := by decide +kernel
theorem dX10_trueFlow_14 : decode cX10_trueFlow 14 = .ok (.invokevirtual 65, 3) := by decide +kernel
theorem dX10_trueFlow_17 : decode cX10_trueFlow 17 = .ok (.iload_n 1, 1) := by decide +kernel
theorem dX10_trueFlow_18 : decode cX10_trueFlow 18 = .ok (.invokevirtual 74, 3) := by decide +kernel
theorem dX10_trueFlow_21 : decode cX10_trueFlow 21 = .ok (.iadd, 1) := by decide +kernel
theorem dX10_trueFlow_22 : decode cX10_trueFlow 22 = .ok (.istore_n 2, 1) := by decide +kernel
theorem dX10_trueFlow_23 : decode cX10_trueFlow 23 = .ok (.iinc 3 1, 3) := by decide +kernel
theorem dX10_trueFlow_26 : decode cX10_trueFlow 26 = .ok (.goto (-22), 3) := by decide +kernel
theorem dX10_trueFlow_29 : decode cX10_trueFlow 29 = .ok (.iload_n 2, 1) := by decide +kernel
theorem dX10_trueFlow_30 : decode cX10_trueFlow 30 = .ok (.ireturn, 1) := by decide +kernel
theorem dX10_counts_0 : decode cX10_counts 0 = .ok (.aload_n 0, 1) := by decide +kernel
theorem dX10_counts_1 : decode cX10_counts 1 = .ok (.iload_n 1, 1) := by decide +kernel
theorem dX10_counts_2 : decode cX10_counts 2 = .ok (.iconst 0, 1) := by decide +kernel
theorem dX10_counts_3 : decode cX10_counts 3 = .ok (.invokevirtual 77, 3) := by decide +kernel
theorem dX10_counts_6 : decode cX10_counts 6 = .ok (.aload_n 0, 1) := by decide +kernel
theorem dX10_counts_7 : decode cX10_counts 7 = .ok (.getfield 7, 3) := by decide +kernel
theorem dX10_counts_10 : decode cX10_counts 10 = .ok (.bipush 6, 2) := by decide +kernel
theorem dX10_counts_12 : decode cX10_counts 12 = .ok (.iaload, 1) := by decide +kernel
theorem dX10_counts_13 : decode cX10_counts 13 = .ok (.if_icmp .ne 22, 3) := by decide +kernel
theorem dX10_counts_16 : decode cX10_counts 16 = .ok (.aload_n 0, 1) := by decide +kernel
theorem dX10_counts_17 : decode cX10_counts 17 = .ok (.iload_n 1, 1) := by decide +kernel
theorem dX10_counts_18 : decode cX10_counts 18 = .ok (.iconst 1, 1) := by decide +kernel
theorem dX10_counts_19 : decode cX10_counts 19 = .ok (.invokevirtual 77, 3) := by decide +kernel
theorem dX10_counts_22 : decode cX10_counts 22 = .ok (.aload_n 0, 1) := by decide +kernel
theorem dX10_counts_23 : decode cX10_counts 23 = .ok (.getfield 7, 3) := by decide +kernel
theorem dX10_counts_26 : decode cX10_counts 26 = .ok (.iconst 5, 1) := by decide +kernel
theorem dX10_counts_27 : decode cX10_counts 27 = .ok (.iaload, 1) := by decide +kernel
theorem dX10_counts_28 : decode cX10_counts 28 = .ok (.if_icmp .ne 7, 3) := by decide +kernel
theorem dX10_counts_31 : decode cX10_counts 31 = .ok (.iconst 1, 1) := by decide +kernel
theorem dX10_counts_32 : decode cX10_counts 32 = .ok (.goto 4, 3) := by decide +kernel
theorem dX10_counts_35 : decode cX10_counts 35 = .ok (.iconst 0, 1) := by decide +kernel
theorem dX10_counts_36 : decode cX10_counts 36 = .ok (.ireturn, 1) := by decide +kernel
theorem dX10_laysMeans_0 : decode cX10_laysMeans 0 = .ok (.aload_n 0, 1) := by decide +kernel
theorem dX10_laysMeans_1 : decode cX10_laysMeans 1 = .ok (.iconst 0, 1) := by decide +kernel
theorem dX10_laysMeans_2 : decode cX10_laysMeans 2 = .ok (.putfield 80, 3) := by decide +kernel
theorem dX10_laysMeans_5 : decode cX10_laysMeans 5 = .ok (.iconst 0, 1) := by decide +kernel
theorem dX10_laysMeans_6 : decode cX10_laysMeans 6 = .ok (.istore_n 1, 1) := by decide +kernel
theorem dX10_laysMeans_7 : decode cX10_laysMeans 7 = .ok (.iload_n 1, 1) := by decide +kernel
theorem dX10_laysMeans_8 : decode cX10_laysMeans 8 = .ok (.bipush 8, 2) := by decide +kernel
theorem dX10_laysMeans_10 : decode cX10_laysMeans 10 = .ok (.if_icmp .ge 16, 3) := by decide +kernel
theorem dX10_laysMeans_13 : decode cX10_laysMeans 13 = .ok (.aload_n 0, 1) := by decide +kernel
theorem dX10_laysMeans_14 : decode cX10_laysMeans 14 = .ok (.getfield 26, 3) := by decide +kernel
theorem dX10_laysMeans_17 : decode cX10_laysMeans 17 = .ok (.iload_n 1, 1) := by decide +kernel
theorem dX10_laysMeans_18 : decode cX10_laysMeans 18 = .ok (.iconst 0, 1) := by decide +kernel
theorem dX10_laysMeans_19 : decode cX10_laysMeans 19 = .ok (.iastore, 1) := by decide +kernel
theorem dX10_laysMeans_20 : decode cX10_laysMeans 20 = .ok (.iinc 1 1, 3) := by decide +kernel
theorem dX10_laysMeans_23 : decode cX10_laysMeans 23 = .ok (.goto (-16), 3) := by decide +kernel
theorem dX10_laysMeans_26 : decode cX10_laysMeans 26 = .ok (.iconst 0, 1) := by decide +kernel
theorem dX10_laysMeans_27 : decode cX10_laysMeans 27 = .ok (.istore_n 1, 1) := by decide +kernel
theorem dX10_laysMeans_28 : decode cX10_laysMeans 28 = .ok (.iload_n 1, 1) := by decide +kernel
theorem dX10_laysMeans_29 : decode cX10_laysMeans 29 = .ok (.aload_n 0, 1) := by decide +kernel
theorem dX10_laysMeans_30 : decode cX10_laysMeans 30 = .ok (.getfield 7, 3) := by decide +kernel
theorem dX10_laysMeans_33 : decode cX10_laysMeans 33 = .ok (.bipush 7, 2) := by decide +kernel
theorem dX10_laysMeans_35 : decode cX10_laysMeans 35 = .ok (.iaload, 1) := by decide +kernel
theorem dX10_laysMeans_36 : decode cX10_laysMeans 36 = .ok (.if_icmp .ge 63, 3) := by decide +kernel
theorem dX10_laysMeans_39 : decode cX10_laysMeans 39 = .ok (.aload_n 0, 1) := by decide +kernel
theorem dX10_laysMeans_40 : decode cX10_laysMeans 40 = .ok (.iload_n 1, 1) := by decide +kernel
theorem dX10_laysMeans_41 : decode cX10_laysMeans 41 = .ok (.invokevirtual 83, 3) := by decide +kernel
theorem dX10_laysMeans_44 : decode cX10_laysMeans 44 = .ok (.ifCond .eq 49, 3) := by decide +kernel
theorem dX10_laysMeans_47 : decode cX10_laysMeans 47 = .ok (.aload_n 0, 1) := by decide +kernel
theorem dX10_laysMeans_48 : decode cX10_laysMeans 48 = .ok (.dup, 1) := by decide +kernel
theorem dX10_laysMeans_49 : decode cX10_laysMeans 49 = .ok (.getfield 80, 3) := by decide +kernel
theorem dX10_laysMeans_52 : decode cX10_laysMeans 52 = .ok (.iconst 1, 1) := by decide +kernel
theorem dX10_laysMeans_53 : decode cX10_laysMeans 53 = .ok (.iadd, 1) := by decide +kernel
theorem dX10_laysMeans_54 : decode cX10_laysMeans 54 = .ok (.putfield 80, 3) := by decide +kernel
theorem dX10_laysMeans_57 : decode cX10_laysMeans 57 = .ok (.iconst 0, 1) := by decide +kernel
theorem dX10_laysMeans_58 : decode cX10_laysMeans 58 = .ok (.istore_n 2, 1) := by decide +kernel
theorem dX10_laysMeans_59 : decode cX10_laysMeans 59 = .ok (.iload_n 2, 1) := by decide +kernel
theorem dX10_laysMeans_60 : decode cX10_laysMeans 60 = .ok (.aload_n 0, 1) := by decide +kernel
theorem dX10_laysMeans_61 : decode cX10_laysMeans 61 = .ok (.getfield 7, 3) := by decide +kernel
theorem dX10_laysMeans_64 : decode cX10_laysMeans 64 = .ok (.bipush 6, 2) := by decide +kernel
theorem dX10_laysMeans_66 : decode cX10_laysMeans 66 = .ok (.iaload, 1) := by decide +kernel
theorem dX10_laysMeans_67 : decode cX10_laysMeans 67 = .ok (.if_icmp .ge 26, 3) := by decide +kernel
theorem dX10_laysMeans_70 : decode cX10_laysMeans 70 = .ok (.aload_n 0, 1) := by decide +kernel
theorem dX10_laysMeans_71 : decode cX10_laysMeans 71 = .ok (.getfield 26, 3) := by decide +kernel
theorem dX10_laysMeans_74 : decode cX10_laysMeans 74 = .ok (.iload_n 2, 1) := by decide +kernel
theorem dX10_laysMeans_75 : decode cX10_laysMeans 75 = .ok (.dup2, 1) := by decide +kernel
theorem dX10_laysMeans_76 : decode cX10_laysMeans 76 = .ok (.iaload, 1) := by decide +kernel
theorem dX10_laysMeans_77 : decode cX10_laysMeans 77 = .ok (.aload_n 0, 1) := by decide +kernel
theorem dX10_laysMeans_78 : decode cX10_laysMeans 78 = .ok (.iload_n 1, 1) := by decide +kernel
theorem dX10_laysMeans_79 : decode cX10_laysMeans 79 = .ok (.iconst 2, 1) := by decide +kernel
theorem dX10_laysMeans_80 : decode cX10_laysMeans 80 = .ok (.iload_n 2, 1) := by decide +kernel
theorem dX10_laysMeans_81 : decode cX10_laysMeans 81 = .ok (.iadd, 1) := by decide +kernel
theorem dX10_laysMeans_82 : decode cX10_laysMeans 82 = .ok (.invokevirtual 77, 3) := by decide +kernel
theorem dX10_laysMeans_85 : decode cX10_laysMeans 85 = .ok (.iadd, 1) := by decide +kernel
theorem dX10_laysMeans_86 : decode cX10_laysMeans 86 = .ok (.iastore, 1) := by decide +kernel
theorem dX10_laysMeans_87 : decode cX10_laysMeans 87 = .ok (.iinc 2 1, 3) := by decide +kernel
theorem dX10_laysMeans_90 : decode cX10_laysMeans 90 = .ok (.goto (-31), 3) := by decide +kernel
theorem dX10_laysMeans_93 : decode cX10_laysMeans 93 = .ok (.iinc 1 1, 3) := by decide +kernel
theorem dX10_laysMeans_96 : decode cX10_laysMeans 96 = .ok (.goto (-68), 3) := by decide +kernel
theorem dX10_laysMeans_99 : decode cX10_laysMeans 99 = .ok (.iconst 0, 1) := by decide +kernel
theorem dX10_laysMeans_100 : decode cX10_laysMeans 100 = .ok (.istore_n 1, 1) := by decide +kernel
theorem dX10_laysMeans_101 : decode cX10_laysMeans 101 = .ok (.iload_n 1, 1) := by decide +kernel
theorem dX10_laysMeans_102 : decode cX10_laysMeans 102 = .ok (.aload_n 0, 1) := by decide +kernel
theorem dX10_laysMeans_103 : decode cX10_laysMeans 103 = .ok (.getfield 7, 3) := by decide +kernel
theorem dX10_laysMeans_106 : decode cX10_laysMeans 106 = .ok (.bipush 6, 2) := by decide +kernel
theorem dX10_laysMeans_108 : decode cX10_laysMeans 108 = .ok (.iaload, 1) := by decide +kernel
theorem dX10_laysMeans_109 : decode cX10_laysMeans 109 = .ok (.if_icmp .ge 29, 3) := by decide +kernel
theorem dX10_laysMeans_112 : decode cX10_laysMeans 112 = .ok (.aload_n 0, 1) := by decide +kernel
theorem dX10_laysMeans_113 : decode cX10_laysMeans 113 = .ok (.getfield 80, 3) := by decide +kernel
theorem dX10_laysMeans_116 : decode cX10_laysMeans 116 = .ok (.ifCond .le 22, 3) := by decide +kernel
theorem dX10_laysMeans_119 : decode cX10_laysMeans 119 = .ok (.aload_n 0, 1) := by decide +kernel
theorem dX10_laysMeans_120 : decode cX10_laysMeans 120 = .ok (.getfield 26, 3) := by decide +kernel
theorem dX10_laysMeans_123 : decode cX10_laysMeans 123 = .ok (.iload_n 1, 1) := by decide +kernel
theorem dX10_laysMeans_124 : decode cX10_laysMeans 124 = .ok (.dup2, 1) := by decide +kernel
theorem dX10_laysMeans_125 : decode cX10_laysMeans 125 = .ok (.iaload, 1) := by decide +kernel
theorem dX10_laysMeans_126 : decode cX10_laysMeans 126 = .ok (.aload_n 0, 1) := by decide +kernel
theorem dX10_laysMeans_127 : decode cX10_laysMeans 127 = .ok (.getfield 80, 3) := by decide +kernel
theorem dX10_laysMeans_130 : decode cX10_laysMeans 130 = .ok (.idiv, 1) := by decide +kernel
theorem dX10_laysMeans_131 : decode cX10_laysMeans 131 = .ok (.iastore, 1) := by decide +kernel
theorem dX10_laysMeans_132 : decode cX10_laysMeans 132 = .ok (.iinc 1 1, 3) := by decide +kernel
theorem dX10_laysMeans_135 : decode cX10_laysMeans 135 = .ok (.goto (-34), 3) := by decide +kernel
theorem dX10_laysMeans_138 : decode cX10_laysMeans 138 = .ok (.return_, 1) := by decide +kernel
theorem dX10_reason_0 : decode cX10_reason 0 = .ok (.aload_n 0, 1) := by decide +kernel
theorem dX10_reason_1 : decode cX10_reason 1 = .ok (.getfield 80, 3) := by decide +kernel
theorem dX10_reason_4 : decode cX10_reason 4 = .ok (.ifCond .eq 12, 3) := by decide +kernel
theorem dX10_reason_7 : decode cX10_reason 7 = .ok (.aload_n 0, 1) := by decide +kernel
theorem dX10_reason_8 : decode cX10_reason 8 = .ok (.getfield 26, 3) := by decide +kernel
theorem dX10_reason_11 : decode cX10_reason 11 = .ok (.iload_n 1, 1) := by decide +kernel
theorem dX10_reason_12 : decode cX10_reason 12 = .ok (.iaload, 1) := by decide +kernel
theorem dX10_reason_13 : decode cX10_reason 13 = .ok (.ifCond .ne 16, 3) := by decide +kernel
theorem dX10_reason_16 : decode cX10_reason 16 = .ok (.aload_n 0, 1) := by decide +kernel
theorem dX10_reason_17 : decode cX10_reason 17 = .ok (.getfield 80, 3) := by decide +kernel
theorem dX10_reason_20 : decode cX10_reason 20 = .ok (.ifCond .ne 7, 3) := by decide +kernel
theorem dX10_reason_23 : decode cX10_reason 23 = .ok (.iconst 1, 1) := by decide +kernel
theorem dX10_reason_24 : decode cX10_reason 24 = .ok (.goto 4, 3) := by decide +kernel
theorem dX10_reason_27 : decode cX10_reason 27 = .ok (.iconst 2, 1) := by decide +kernel
theorem dX10_reason_28 : decode cX10_reason 28 = .ok (.ireturn, 1) := by decide +kernel
theorem dX10_reason_29 : decode cX10_reason 29 = .ok (.bipush 100, 2) := by decide +kernel
theorem dX10_reason_31 : decode cX10_reason 31 = .ok (.aload_n 0, 1) := by decide +kernel
theorem dX10_reason_32 : decode cX10_reason 32 = .ok (.getfield 26, 3) := by decide +kernel
theorem dX10_reason_35 : decode cX10_reason 35 = .ok (.iload_n 1, 1) := by decide +kernel
theorem dX10_reason_36 : decode cX10_reason 36 = .ok (.iaload, 1) := by decide +kernel
theorem dX10_reason_37 : decode cX10_reason 37 = .ok (.imul, 1) := by decide +kernel
theorem dX10_reason_38 : decode cX10_reason 38 = .ok (.aload_n 0, 1) := by decide +kernel
theorem dX10_reason_39 : decode cX10_reason 39 = .ok (.getfield 7, 3) := by decide +kernel
theorem dX10_reason_42 : decode cX10_reason 42 = .ok (.iconst 3, 1) := by decide +kernel
theorem dX10_reason_43 : decode cX10_reason 43 = .ok (.iaload, 1) := by decide +kernel
theorem dX10_reason_44 : decode cX10_reason 44 = .ok (.iload_n 2, 1) := by decide +kernel
theorem dX10_reason_45 : decode cX10_reason 45 = .ok (.imul, 1) := by decide +kernel
theorem dX10_reason_46 : decode cX10_reason 46 = .ok (.if_icmp .ge 7, 3) := by decide +kernel
theorem dX10_reason_49 : decode cX10_reason 49 = .ok (.iconst 3, 1) := by decide +kernel
theorem dX10_reason_50 : decode cX10_reason 50 = .ok (.goto 12, 3) := by decide +kernel
theorem dX10_reason_53 : decode cX10_reason 53 = .ok (.iload_n 3, 1) := by decide +kernel
theorem dX10_reason_54 : decode cX10_reason 54 = .ok (.ifCond .eq 7, 3) := by decide +kernel
theorem dX10_reason_57 : decode cX10_reason 57 = .ok (.iconst 4, 1) := by decide +kernel
theorem dX10_reason_58 : decode cX10_reason 58 = .ok (.goto 4, 3) := by decide +kernel
theorem dX10_reason_61 : decode cX10_reason 61 = .ok (.iconst 0, 1) := by decide +kernel
theorem dX10_reason_62 : decode cX10_reason 62 = .ok (.ireturn, 1) := by decide +kernel
theorem dX10_nearest_0 : decode cX10_nearest 0 = .ok (.iload_n 1, 1) := by decide +kernel
theorem dX10_nearest_1 : decode cX10_nearest 1 = .ok (.iload_n 2, 1) := by decide +kernel
theorem dX10_nearest_2 : decode cX10_nearest 2 = .ok (.iadd, 1) := by decide +kernel
theorem dX10_nearest_3 : decode cX10_nearest 3 = .ok (.istore_n 3, 1) := by decide +kernel
theorem dX10_nearest_4 : decode cX10_nearest 4 = .ok (.aload_n 0, 1) := by decide +kernel
theorem dX10_nearest_5 : decode cX10_nearest 5 = .ok (.iload_n 3, 1) := by decide +kernel
theorem dX10_nearest_6 : decode cX10_nearest 6 = .ok (.invokevirtual 87, 3) := by decide +kernel
theorem dX10_nearest_9 : decode cX10_nearest 9 = .ok (.ifCond .eq 19, 3) := by decide +kernel
theorem dX10_nearest_12 : decode cX10_nearest 12 = .ok (.aload_n 0, 1) := by decide +kernel
theorem dX10_nearest_13 : decode cX10_nearest 13 = .ok (.getfield 29, 3) := by decide +kernel
theorem dX10_nearest_16 : decode cX10_nearest 16 = .ok (.iload_n 3, 1) := by decide +kernel
theorem dX10_nearest_17 : decode cX10_nearest 17 = .ok (.iaload, 1) := by decide +kernel
theorem dX10_nearest_18 : decode cX10_nearest 18 = .ok (.ifCond .eq 10, 3) := by decide +kernel
theorem dX10_nearest_21 : decode cX10_nearest 21 = .ok (.iload_n 3, 1) := by decide +kernel
theorem dX10_nearest_22 : decode cX10_nearest 22 = .ok (.iload_n 2, 1) := by decide +kernel
theorem dX10_nearest_23 : decode cX10_nearest 23 = .ok (.iadd, 1) := by decide +kernel
theorem dX10_nearest_24 : decode cX10_nearest 24 = .ok (.istore_n 3, 1) := by decide +kernel
theorem dX10_nearest_25 : decode cX10_nearest 25 = .ok (.goto (-21), 3) := by decide +kernel
theorem dX10_nearest_28 : decode cX10_nearest 28 = .ok (.aload_n 0, 1) := by decide +kernel
theorem dX10_nearest_29 : decode cX10_nearest 29 = .ok (.iload_n 3, 1) := by decide +kernel
theorem dX10_nearest_30 : decode cX10_nearest 30 = .ok (.invokevirtual 87, 3) := by decide +kernel
theorem dX10_nearest_33 : decode cX10_nearest 33 = .ok (.ifCond .eq 7, 3) := by decide +kernel
theorem dX10_nearest_36 : decode cX10_nearest 36 = .ok (.iload_n 3, 1) := by decide +kernel
theorem dX10_nearest_37 : decode cX10_nearest 37 = .ok (.goto 4, 3) := by decide +kernel
theorem dX10_nearest_40 : decode cX10_nearest 40 = .ok (.iconst (-1), 1) := by decide +kernel
theorem dX10_nearest_41 : decode cX10_nearest 41 = .ok (.ireturn, 1) := by decide +kernel
theorem dX10_mended_0 : decode cX10_mended 0 = .ok (.aload_n 0, 1) := by decide +kernel
theorem dX10_mended_1 : decode cX10_mended 1 = .ok (.iload_n 1, 1) := by decide +kernel
theorem dX10_mended_2 : decode cX10_mended 2 = .ok (.iconst 1, 1) := by decide +kernel
theorem dX10_mended_3 : decode cX10_mended 3 = .ok (.invokevirtual 90, 3) := by decide +kernel
theorem dX10_mended_6 : decode cX10_mended 6 = .ok (.istore_n 2, 1) := by decide +kernel
theorem dX10_mended_7 : decode cX10_mended 7 = .ok (.aload_n 0, 1) := by decide +kernel
theorem dX10_mended_8 : decode cX10_mended 8 = .ok (.iload_n 1, 1) := by decide +kernel
theorem dX10_mended_9 : decode cX10_mended 9 = .ok (.iconst (-1), 1) := by decide +kernel
theorem dX10_mended_10 : decode cX10_mended 10 = .ok (.invokevirtual 90, 3) := by decide +kernel
theorem dX10_mended_13 : decode cX10_mended 13 = .ok (.istore_n 3, 1) := by decide +kernel
theorem dX10_mended_14 : decode cX10_mended 14 = .ok (.iload_n 2, 1) := by decide +kernel
theorem dX10_mended_15 : decode cX10_mended 15 = .ok (.iconst (-1), 1) := by decide +kernel
theorem dX10_mended_16 : decode cX10_mended 16 = .ok (.if_icmp .eq 8, 3) := by decide +kernel
theorem dX10_mended_19 : decode cX10_mended 19 = .ok (.iload_n 3, 1) := by decide +kernel
theorem dX10_mended_20 : decode cX10_mended 20 = .ok (.iconst (-1), 1) := by decide +kernel
theorem dX10_mended_21 : decode cX10_mended 21 = .ok (.if_icmp .ne 24, 3) := by decide +kernel
theorem dX10_mended_24 : decode cX10_mended 24 = .ok (.iload_n 2, 1) := by decide +kernel
theorem dX10_mended_25 : decode cX10_mended 25 = .ok (.iconst (-1), 1) := by decide +kernel
theorem dX10_mended_26 : decode cX10_mended 26 = .ok (.if_icmp .ne 12, 3) := by decide +kernel
theorem dX10_mended_29 : decode cX10_mended 29 = .ok (.aload_n 0, 1) := by decide +kernel
theorem dX10_mended_30 : decode cX10_mended 30 = .ok (.getfield 32, 3) := by decide +kernel
theorem dX10_mended_33 : decode cX10_mended 33 = .ok (.iload_n 3, 1) := by decide +kernel
theorem dX10_mended_34 : decode cX10_mended 34 = .ok (.iaload, 1) := by decide +kernel
theorem dX10_mended_35 : decode cX10_mended 35 = .ok (.goto 9, 3) := by decide +kernel
theorem dX10_mended_38 : decode cX10_mended 38 = .ok (.aload_n 0, 1) := by decide +kernel
theorem dX10_mended_39 : decode cX10_mended 39 = .ok (.getfield 32, 3) := by decide +kernel
theorem dX10_mended_42 : decode cX10_mended 42 = .ok (.iload_n 2, 1) := by decide +kernel
theorem dX10_mended_43 : decode cX10_mended 43 = .ok (.iaload, 1) := by decide +kernel
theorem dX10_mended_44 : decode cX10_mended 44 = .ok (.ireturn, 1) := by decide +kernel
theorem dX10_mended_45 : decode cX10_mended 45 = .ok (.aload_n 0, 1) := by decide +kernel
theorem dX10_mended_46 : decode cX10_mended 46 = .ok (.getfield 32, 3) := by decide +kernel
theorem dX10_mended_49 : decode cX10_mended 49 = .ok (.iload_n 2, 1) := by decide +kernel
theorem dX10_mended_50 : decode cX10_mended 50 = .ok (.iaload, 1) := by decide +kernel
theorem dX10_mended_51 : decode cX10_mended 51 = .ok (.aload_n 0, 1) := by decide +kernel
theorem dX10_mended_52 : decode cX10_mended 52 = .ok (.getfield 32, 3) := by decide +kernel
theorem dX10_mended_55 : decode cX10_mended 55 = .ok (.iload_n 3, 1) := by decide +kernel
theorem dX10_mended_56 : decode cX10_mended 56 = .ok (.iaload, 1) := by decide +kernel
theorem dX10_mended_57 : decode cX10_mended 57 = .ok (.iadd, 1) := by decide +kernel
theorem dX10_mended_58 : decode cX10_mended 58 = .ok (.iconst 2, 1) := by decide +kernel
theorem dX10_mended_59 : decode cX10_mended 59 = .ok (.idiv, 1) := by decide +kernel
theorem dX10_mended_60 : decode cX10_mended 60 = .ok (.ireturn, 1) := by decide +kernel
theorem dX10_laysTold_0 : decode cX10_laysTold 0 = .ok (.iconst 0, 1) := by decide +kernel
theorem dX10_laysTold_1 : decode cX10_laysTold 1 = .ok (.istore_n 2, 1) := by decide +kernel
theorem dX10_laysTold_2 : decode cX10_laysTold 2 = .ok (.iconst 0, 1) := by decide +kernel
theorem dX10_laysTold_3 : decode cX10_laysTold 3 = .ok (.istore_n 3, 1) := by decide +kernel
theorem dX10_laysTold_4 : decode cX10_laysTold 4 = .ok (.iload_n 3, 1) := by decide +kernel
theorem dX10_laysTold_5 : decode cX10_laysTold 5 = .ok (.aload_n 0, 1) := by decide +kernel
theorem dX10_laysTold_6 : decode cX10_laysTold 6 = .ok (.getfield 7, 3) := by decide +kernel
theorem dX10_laysTold_9 : decode cX10_laysTold 9 = .ok (.bipush 6, 2) := by decide +kernel
theorem dX10_laysTold_11 : decode cX10_laysTold 11 = .ok (.iaload, 1) := by decide +kernel
theorem dX10_laysTold_12 : decode cX10_laysTold 12 = .ok (.if_icmp .ge 30, 3) := by decide +kernel
theorem dX10_laysTold_15 : decode cX10_laysTold 15 = .ok (.aload_n 0, 1) := by decide +kernel
theorem dX10_laysTold_16 : decode cX10_laysTold 16 = .ok (.getfield 26, 3) := by decide +kernel
theorem dX10_laysTold_19 : decode cX10_laysTold 19 = .ok (.iload_n 3, 1) := by decide +kernel
theorem dX10_laysTold_20 : decode cX10_laysTold 20 = .ok (.iaload, 1) := by decide +kernel
theorem dX10_laysTold_21 : decode cX10_laysTold 21 = .ok (.iload_n 2, 1) := by decide +kernel
theorem dX10_laysTold_22 : decode cX10_laysTold 22 = .ok (.if_icmp .le 12, 3) := by decide +kernel
theorem dX10_laysTold_25 : decode cX10_laysTold 25 = .ok (.aload_n 0, 1) := by decide +kernel
theorem dX10_laysTold_26 : decode cX10_laysTold 26 = .ok (.getfield 26, 3) := by decide +kernel
theorem dX10_laysTold_29 : decode cX10_laysTold 29 = .ok (.iload_n 3, 1) := by decide +kernel
theorem dX10_laysTold_30 : decode cX10_laysTold 30 = .ok (.iaload, 1) := by decide +kernel
theorem dX10_laysTold_31 : decode cX10_laysTold 31 = .ok (.goto 4, 3) := by decide +kernel
theorem dX10_laysTold_34 : decode cX10_laysTold 34 = .ok (.iload_n 2, 1) := by decide +kernel
theorem dX10_laysTold_35 : decode cX10_laysTold 35 = .ok (.istore_n 2, 1) := by decide +kernel
theorem dX10_laysTold_36 : decode cX10_laysTold 36 = .ok (.iinc 3 1, 3) := by decide +kernel
theorem dX10_laysTold_39 : decode cX10_laysTold 39 = .ok (.goto (-35), 3) := by decide +kernel
theorem dX10_laysTold_42 : decode cX10_laysTold 42 = .ok (.aload_n 0, 1) := by decide +kernel
theorem dX10_laysTold_43 : decode cX10_laysTold 43 = .ok (.iconst 0, 1) := by decide +kernel
theorem dX10_laysTold_44 : decode cX10_laysTold 44 = .ok (.putfield 93, 3) := by decide +kernel
theorem dX10_laysTold_47 : decode cX10_laysTold 47 = .ok (.iconst 0, 1) := by decide +kernel
theorem dX10_laysTold_48 : decode cX10_laysTold 48 = .ok (.istore_n 3, 1) := by decide +kernel
theorem dX10_laysTold_49 : decode cX10_laysTold 49 = .ok (.iload_n 3, 1) := by decide +kernel
theorem dX10_laysTold_50 : decode cX10_laysTold 50 = .ok (.aload_n 0, 1) := by decide +kernel
theorem dX10_laysTold_51 : decode cX10_laysTold 51 = .ok (.getfield 7, 3) := by decide +kernel
theorem dX10_laysTold_54 : decode cX10_laysTold 54 = .ok (.bipush 6, 2) := by decide +kernel
theorem dX10_laysTold_56 : decode cX10_laysTold 56 = .ok (.iaload, 1) := by decide +kernel
theorem dX10_laysTold_57 : decode cX10_laysTold 57 = .ok (.if_icmp .ge 96, 3) := by decide +kernel
theorem dX10_laysTold_60 : decode cX10_laysTold 60 = .ok (.aload_n 0, 1) := by decide +kernel
theorem dX10_laysTold_61 : decode cX10_laysTold 61 = .ok (.getfield 29, 3) := by decide +kernel
theorem dX10_laysTold_64 : decode cX10_laysTold 64 = .ok (.iload_n 3, 1) := by decide +kernel
theorem dX10_laysTold_65 : decode cX10_laysTold 65 = .ok (.aload_n 0, 1) := by decide +kernel
theorem dX10_laysTold_66 : decode cX10_laysTold 66 = .ok (.iload_n 3, 1) := by decide +kernel
theorem dX10_laysTold_67 : decode cX10_laysTold 67 = .ok (.iload_n 2, 1) := by decide +kernel
theorem dX10_laysTold_68 : decode cX10_laysTold 68 = .ok (.aload_n 0, 1) := by decide +kernel
end
section
theorem dX10_laysTold_69 : decode cX10_laysTold 69 = .ok (.iload_n 3, 1) := by decide +kernel
theorem dX10_laysTold_70 : decode cX10_laysTold 70 = .ok (.iconst 2, 1) := by decide +kernel
theorem dX10_laysTold_71 : decode cX10_laysTold 71 = .ok (.invokevirtual 71, 3) := by decide +kernel
theorem dX10_laysTold_74 : decode cX10_laysTold 74 = .ok (.iconst 2, 1) := by decide +kernel
theorem dX10_laysTold_75 : decode cX10_laysTold 75 = .ok (.if_icmp .ne 12, 3) := by decide +kernel
theorem dX10_laysTold_78 : decode cX10_laysTold 78 = .ok (.iload_n 3, 1) := by decide +kernel
theorem dX10_laysTold_79 : decode cX10_laysTold 79 = .ok (.iload_n 1, 1) := by decide +kernel
theorem dX10_laysTold_80 : decode cX10_laysTold 80 = .ok (.if_icmp .eq 7, 3) := by decide +kernel
theorem dX10_laysTold_83 : decode cX10_laysTold 83 = .ok (.iconst 1, 1) := by decide +kernel
theorem dX10_laysTold_84 : decode cX10_laysTold 84 = .ok (.goto 4, 3) := by decide +kernel
theorem dX10_laysTold_87 : decode cX10_laysTold 87 = .ok (.iconst 0, 1) := by decide +kernel
theorem dX10_laysTold_88 : decode cX10_laysTold 88 = .ok (.invokevirtual 96, 3) := by decide +kernel
theorem dX10_laysTold_91 : decode cX10_laysTold 91 = .ok (.iastore, 1) := by decide +kernel
theorem dX10_laysTold_92 : decode cX10_laysTold 92 = .ok (.aload_n 0, 1) := by decide +kernel
theorem dX10_laysTold_93 : decode cX10_laysTold 93 = .ok (.dup, 1) := by decide +kernel
theorem dX10_laysTold_94 : decode cX10_laysTold 94 = .ok (.getfield 93, 3) := by decide +kernel
theorem dX10_laysTold_97 : decode cX10_laysTold 97 = .ok (.aload_n 0, 1) := by decide +kernel
theorem dX10_laysTold_98 : decode cX10_laysTold 98 = .ok (.getfield 29, 3) := by decide +kernel
theorem dX10_laysTold_101 : decode cX10_laysTold 101 = .ok (.iload_n 3, 1) := by decide +kernel
theorem dX10_laysTold_102 : decode cX10_laysTold 102 = .ok (.iaload, 1) := by decide +kernel
theorem dX10_laysTold_103 : decode cX10_laysTold 103 = .ok (.ifCond .ne 7, 3) := by decide +kernel
theorem dX10_laysTold_106 : decode cX10_laysTold 106 = .ok (.iconst 1, 1) := by decide +kernel
theorem dX10_laysTold_107 : decode cX10_laysTold 107 = .ok (.goto 4, 3) := by decide +kernel
theorem dX10_laysTold_110 : decode cX10_laysTold 110 = .ok (.iconst 0, 1) := by decide +kernel
theorem dX10_laysTold_111 : decode cX10_laysTold 111 = .ok (.iadd, 1) := by decide +kernel
theorem dX10_laysTold_112 : decode cX10_laysTold 112 = .ok (.putfield 93, 3) := by decide +kernel
theorem dX10_laysTold_115 : decode cX10_laysTold 115 = .ok (.aload_n 0, 1) := by decide +kernel
theorem dX10_laysTold_116 : decode cX10_laysTold 116 = .ok (.getfield 32, 3) := by decide +kernel
theorem dX10_laysTold_119 : decode cX10_laysTold 119 = .ok (.iload_n 3, 1) := by decide +kernel
theorem dX10_laysTold_120 : decode cX10_laysTold 120 = .ok (.aload_n 0, 1) := by decide +kernel
theorem dX10_laysTold_121 : decode cX10_laysTold 121 = .ok (.getfield 29, 3) := by decide +kernel
theorem dX10_laysTold_124 : decode cX10_laysTold 124 = .ok (.iload_n 3, 1) := by decide +kernel
theorem dX10_laysTold_125 : decode cX10_laysTold 125 = .ok (.iaload, 1) := by decide +kernel
theorem dX10_laysTold_126 : decode cX10_laysTold 126 = .ok (.ifCond .ne 19, 3) := by decide +kernel
theorem dX10_laysTold_129 : decode cX10_laysTold 129 = .ok (.sipush 10000, 3) := by decide +kernel
theorem dX10_laysTold_132 : decode cX10_laysTold 132 = .ok (.aload_n 0, 1) := by decide +kernel
theorem dX10_laysTold_133 : decode cX10_laysTold 133 = .ok (.getfield 26, 3) := by decide +kernel
theorem dX10_laysTold_136 : decode cX10_laysTold 136 = .ok (.iload_n 3, 1) := by decide +kernel
theorem dX10_laysTold_137 : decode cX10_laysTold 137 = .ok (.iaload, 1) := by decide +kernel
theorem dX10_laysTold_138 : decode cX10_laysTold 138 = .ok (.imul, 1) := by decide +kernel
theorem dX10_laysTold_139 : decode cX10_laysTold 139 = .ok (.invokestatic 57, 3) := by decide +kernel
theorem dX10_laysTold_142 : decode cX10_laysTold 142 = .ok (.goto 4, 3) := by decide +kernel
theorem dX10_laysTold_145 : decode cX10_laysTold 145 = .ok (.iconst 0, 1) := by decide +kernel
theorem dX10_laysTold_146 : decode cX10_laysTold 146 = .ok (.iastore, 1) := by decide +kernel
theorem dX10_laysTold_147 : decode cX10_laysTold 147 = .ok (.iinc 3 1, 3) := by decide +kernel
theorem dX10_laysTold_150 : decode cX10_laysTold 150 = .ok (.goto (-101), 3) := by decide +kernel
theorem dX10_laysTold_153 : decode cX10_laysTold 153 = .ok (.iconst 0, 1) := by decide +kernel
theorem dX10_laysTold_154 : decode cX10_laysTold 154 = .ok (.istore_n 3, 1) := by decide +kernel
theorem dX10_laysTold_155 : decode cX10_laysTold 155 = .ok (.iload_n 3, 1) := by decide +kernel
theorem dX10_laysTold_156 : decode cX10_laysTold 156 = .ok (.aload_n 0, 1) := by decide +kernel
theorem dX10_laysTold_157 : decode cX10_laysTold 157 = .ok (.getfield 7, 3) := by decide +kernel
theorem dX10_laysTold_160 : decode cX10_laysTold 160 = .ok (.bipush 6, 2) := by decide +kernel
theorem dX10_laysTold_162 : decode cX10_laysTold 162 = .ok (.iaload, 1) := by decide +kernel
theorem dX10_laysTold_163 : decode cX10_laysTold 163 = .ok (.if_icmp .ge 45, 3) := by decide +kernel
theorem dX10_laysTold_166 : decode cX10_laysTold 166 = .ok (.aload_n 0, 1) := by decide +kernel
theorem dX10_laysTold_167 : decode cX10_laysTold 167 = .ok (.getfield 93, 3) := by decide +kernel
theorem dX10_laysTold_170 : decode cX10_laysTold 170 = .ok (.ifCond .le 38, 3) := by decide +kernel
theorem dX10_laysTold_173 : decode cX10_laysTold 173 = .ok (.aload_n 0, 1) := by decide +kernel
theorem dX10_laysTold_174 : decode cX10_laysTold 174 = .ok (.getfield 32, 3) := by decide +kernel
theorem dX10_laysTold_177 : decode cX10_laysTold 177 = .ok (.iload_n 3, 1) := by decide +kernel
theorem dX10_laysTold_178 : decode cX10_laysTold 178 = .ok (.aload_n 0, 1) := by decide +kernel
theorem dX10_laysTold_179 : decode cX10_laysTold 179 = .ok (.getfield 29, 3) := by decide +kernel
theorem dX10_laysTold_182 : decode cX10_laysTold 182 = .ok (.iload_n 3, 1) := by decide +kernel
theorem dX10_laysTold_183 : decode cX10_laysTold 183 = .ok (.iaload, 1) := by decide +kernel
theorem dX10_laysTold_184 : decode cX10_laysTold 184 = .ok (.ifCond .ne 12, 3) := by decide +kernel
theorem dX10_laysTold_187 : decode cX10_laysTold 187 = .ok (.aload_n 0, 1) := by decide +kernel
theorem dX10_laysTold_188 : decode cX10_laysTold 188 = .ok (.getfield 32, 3) := by decide +kernel
theorem dX10_laysTold_191 : decode cX10_laysTold 191 = .ok (.iload_n 3, 1) := by decide +kernel
theorem dX10_laysTold_192 : decode cX10_laysTold 192 = .ok (.iaload, 1) := by decide +kernel
theorem dX10_laysTold_193 : decode cX10_laysTold 193 = .ok (.goto 8, 3) := by decide +kernel
theorem dX10_laysTold_196 : decode cX10_laysTold 196 = .ok (.aload_n 0, 1) := by decide +kernel
theorem dX10_laysTold_197 : decode cX10_laysTold 197 = .ok (.iload_n 3, 1) := by decide +kernel
theorem dX10_laysTold_198 : decode cX10_laysTold 198 = .ok (.invokevirtual 100, 3) := by decide +kernel
theorem dX10_laysTold_201 : decode cX10_laysTold 201 = .ok (.iastore, 1) := by decide +kernel
theorem dX10_laysTold_202 : decode cX10_laysTold 202 = .ok (.iinc 3 1, 3) := by decide +kernel
theorem dX10_laysTold_205 : decode cX10_laysTold 205 = .ok (.goto (-50), 3) := by decide +kernel
theorem dX10_laysTold_208 : decode cX10_laysTold 208 = .ok (.return_, 1) := by decide +kernel
theorem dX10_laysAll_0 : decode cX10_laysAll 0 = .ok (.aload_n 0, 1) := by decide +kernel
theorem dX10_laysAll_1 : decode cX10_laysAll 1 = .ok (.invokevirtual 103, 3) := by decide +kernel
theorem dX10_laysAll_4 : decode cX10_laysAll 4 = .ok (.aload_n 0, 1) := by decide +kernel
theorem dX10_laysAll_5 : decode cX10_laysAll 5 = .ok (.iconst (-1), 1) := by decide +kernel
theorem dX10_laysAll_6 : decode cX10_laysAll 6 = .ok (.invokevirtual 106, 3) := by decide +kernel
theorem dX10_laysAll_9 : decode cX10_laysAll 9 = .ok (.return_, 1) := by decide +kernel
theorem dX10_flowOf_0 : decode cX10_flowOf 0 = .ok (.iconst 0, 1) := by decide +kernel
theorem dX10_flowOf_1 : decode cX10_flowOf 1 = .ok (.istore_n 3, 1) := by decide +kernel
theorem dX10_flowOf_2 : decode cX10_flowOf 2 = .ok (.iload_n 1, 1) := by decide +kernel
theorem dX10_flowOf_3 : decode cX10_flowOf 3 = .ok (.istore 4, 2) := by decide +kernel
theorem dX10_flowOf_5 : decode cX10_flowOf 5 = .ok (.iload 4, 2) := by decide +kernel
theorem dX10_flowOf_7 : decode cX10_flowOf 7 = .ok (.iload_n 2, 1) := by decide +kernel
theorem dX10_flowOf_8 : decode cX10_flowOf 8 = .ok (.if_icmp .ge 30, 3) := by decide +kernel
theorem dX10_flowOf_11 : decode cX10_flowOf 11 = .ok (.iload_n 3, 1) := by decide +kernel
theorem dX10_flowOf_12 : decode cX10_flowOf 12 = .ok (.aload_n 0, 1) := by decide +kernel
theorem dX10_flowOf_13 : decode cX10_flowOf 13 = .ok (.aload_n 0, 1) := by decide +kernel
theorem dX10_flowOf_14 : decode cX10_flowOf 14 = .ok (.getfield 32, 3) := by decide +kernel
theorem dX10_flowOf_17 : decode cX10_flowOf 17 = .ok (.iload 4, 2) := by decide +kernel
theorem dX10_flowOf_19 : decode cX10_flowOf 19 = .ok (.iaload, 1) := by decide +kernel
theorem dX10_flowOf_20 : decode cX10_flowOf 20 = .ok (.aload_n 0, 1) := by decide +kernel
theorem dX10_flowOf_21 : decode cX10_flowOf 21 = .ok (.getfield 7, 3) := by decide +kernel
theorem dX10_flowOf_24 : decode cX10_flowOf 24 = .ok (.bipush 6, 2) := by decide +kernel
theorem dX10_flowOf_26 : decode cX10_flowOf 26 = .ok (.iaload, 1) := by decide +kernel
theorem dX10_flowOf_27 : decode cX10_flowOf 27 = .ok (.invokevirtual 74, 3) := by decide +kernel
theorem dX10_flowOf_30 : decode cX10_flowOf 30 = .ok (.iadd, 1) := by decide +kernel
theorem dX10_flowOf_31 : decode cX10_flowOf 31 = .ok (.istore_n 3, 1) := by decide +kernel
theorem dX10_flowOf_32 : decode cX10_flowOf 32 = .ok (.iinc 4 1, 3) := by decide +kernel
theorem dX10_flowOf_35 : decode cX10_flowOf 35 = .ok (.goto (-30), 3) := by decide +kernel
theorem dX10_flowOf_38 : decode cX10_flowOf 38 = .ok (.aload_n 0, 1) := by decide +kernel
theorem dX10_flowOf_39 : decode cX10_flowOf 39 = .ok (.getfield 93, 3) := by decide +kernel
theorem dX10_flowOf_42 : decode cX10_flowOf 42 = .ok (.ifCond .ne 7, 3) := by decide +kernel
theorem dX10_flowOf_45 : decode cX10_flowOf 45 = .ok (.iconst (-1), 1) := by decide +kernel
theorem dX10_flowOf_46 : decode cX10_flowOf 46 = .ok (.goto 4, 3) := by decide +kernel
theorem dX10_flowOf_49 : decode cX10_flowOf 49 = .ok (.iload_n 3, 1) := by decide +kernel
theorem dX10_flowOf_50 : decode cX10_flowOf 50 = .ok (.ireturn, 1) := by decide +kernel
theorem dX10_holeWork_0 : decode cX10_holeWork 0 = .ok (.iconst 0, 1) := by decide +kernel
theorem dX10_holeWork_1 : decode cX10_holeWork 1 = .ok (.istore_n 1, 1) := by decide +kernel
theorem dX10_holeWork_2 : decode cX10_holeWork 2 = .ok (.iconst 0, 1) := by decide +kernel
theorem dX10_holeWork_3 : decode cX10_holeWork 3 = .ok (.istore_n 2, 1) := by decide +kernel
theorem dX10_holeWork_4 : decode cX10_holeWork 4 = .ok (.iload_n 2, 1) := by decide +kernel
theorem dX10_holeWork_5 : decode cX10_holeWork 5 = .ok (.aload_n 0, 1) := by decide +kernel
theorem dX10_holeWork_6 : decode cX10_holeWork 6 = .ok (.getfield 7, 3) := by decide +kernel
theorem dX10_holeWork_9 : decode cX10_holeWork 9 = .ok (.bipush 6, 2) := by decide +kernel
theorem dX10_holeWork_11 : decode cX10_holeWork 11 = .ok (.iaload, 1) := by decide +kernel
theorem dX10_holeWork_12 : decode cX10_holeWork 12 = .ok (.if_icmp .ge 18, 3) := by decide +kernel
theorem dX10_holeWork_15 : decode cX10_holeWork 15 = .ok (.iload_n 1, 1) := by decide +kernel
theorem dX10_holeWork_16 : decode cX10_holeWork 16 = .ok (.aload_n 0, 1) := by decide +kernel
theorem dX10_holeWork_17 : decode cX10_holeWork 17 = .ok (.iload_n 2, 1) := by decide +kernel
theorem dX10_holeWork_18 : decode cX10_holeWork 18 = .ok (.iconst 3, 1) := by decide +kernel
theorem dX10_holeWork_19 : decode cX10_holeWork 19 = .ok (.invokevirtual 71, 3) := by decide +kernel
theorem dX10_holeWork_22 : decode cX10_holeWork 22 = .ok (.iadd, 1) := by decide +kernel
theorem dX10_holeWork_23 : decode cX10_holeWork 23 = .ok (.istore_n 1, 1) := by decide +kernel
theorem dX10_holeWork_24 : decode cX10_holeWork 24 = .ok (.iinc 2 1, 3) := by decide +kernel
theorem dX10_holeWork_27 : decode cX10_holeWork 27 = .ok (.goto (-23), 3) := by decide +kernel
theorem dX10_holeWork_30 : decode cX10_holeWork 30 = .ok (.iload_n 1, 1) := by decide +kernel
theorem dX10_holeWork_31 : decode cX10_holeWork 31 = .ok (.ireturn, 1) := by decide +kernel
theorem dX10_rake_0 : decode cX10_rake 0 = .ok (.aload_n 0, 1) := by decide +kernel
theorem dX10_rake_1 : decode cX10_rake 1 = .ok (.iconst 0, 1) := by decide +kernel
theorem dX10_rake_2 : decode cX10_rake 2 = .ok (.putfield 38, 3) := by decide +kernel
theorem dX10_rake_5 : decode cX10_rake 5 = .ok (.iload_n 1, 1) := by decide +kernel
theorem dX10_rake_6 : decode cX10_rake 6 = .ok (.iconst 2, 1) := by decide +kernel
theorem dX10_rake_7 : decode cX10_rake 7 = .ok (.bipush 8, 2) := by decide +kernel
theorem dX10_rake_9 : decode cX10_rake 9 = .ok (.invokestatic 45, 3) := by decide +kernel
theorem dX10_rake_12 : decode cX10_rake 12 = .ok (.ifCond .ne 9, 3) := by decide +kernel
theorem dX10_rake_15 : decode cX10_rake 15 = .ok (.aload_n 0, 1) := by decide +kernel
theorem dX10_rake_16 : decode cX10_rake 16 = .ok (.iconst 1, 1) := by decide +kernel
theorem dX10_rake_17 : decode cX10_rake 17 = .ok (.invokevirtual 110, 3) := by decide +kernel
theorem dX10_rake_20 : decode cX10_rake 20 = .ok (.ireturn, 1) := by decide +kernel
theorem dX10_rake_21 : decode cX10_rake 21 = .ok (.aload_n 0, 1) := by decide +kernel
theorem dX10_rake_22 : decode cX10_rake 22 = .ok (.invokevirtual 113, 3) := by decide +kernel
theorem dX10_rake_25 : decode cX10_rake 25 = .ok (.aload_n 0, 1) := by decide +kernel
theorem dX10_rake_26 : decode cX10_rake 26 = .ok (.getfield 7, 3) := by decide +kernel
theorem dX10_rake_29 : decode cX10_rake 29 = .ok (.bipush 6, 2) := by decide +kernel
theorem dX10_rake_31 : decode cX10_rake 31 = .ok (.iaload, 1) := by decide +kernel
theorem dX10_rake_32 : decode cX10_rake 32 = .ok (.istore_n 2, 1) := by decide +kernel
theorem dX10_rake_33 : decode cX10_rake 33 = .ok (.aload_n 0, 1) := by decide +kernel
theorem dX10_rake_34 : decode cX10_rake 34 = .ok (.getfield 7, 3) := by decide +kernel
theorem dX10_rake_37 : decode cX10_rake 37 = .ok (.bipush 9, 2) := by decide +kernel
theorem dX10_rake_39 : decode cX10_rake 39 = .ok (.dup2, 1) := by decide +kernel
theorem dX10_rake_40 : decode cX10_rake 40 = .ok (.iaload, 1) := by decide +kernel
theorem dX10_rake_41 : decode cX10_rake 41 = .ok (.aload_n 0, 1) := by decide +kernel
theorem dX10_rake_42 : decode cX10_rake 42 = .ok (.invokevirtual 116, 3) := by decide +kernel
theorem dX10_rake_45 : decode cX10_rake 45 = .ok (.iadd, 1) := by decide +kernel
theorem dX10_rake_46 : decode cX10_rake 46 = .ok (.iastore, 1) := by decide +kernel
theorem dX10_rake_47 : decode cX10_rake 47 = .ok (.aload_n 0, 1) := by decide +kernel
theorem dX10_rake_48 : decode cX10_rake 48 = .ok (.getfield 7, 3) := by decide +kernel
theorem dX10_rake_51 : decode cX10_rake 51 = .ok (.bipush 6, 2) := by decide +kernel
theorem dX10_rake_53 : decode cX10_rake 53 = .ok (.iload_n 1, 1) := by decide +kernel
theorem dX10_rake_54 : decode cX10_rake 54 = .ok (.iastore, 1) := by decide +kernel
theorem dX10_rake_55 : decode cX10_rake 55 = .ok (.aload_n 0, 1) := by decide +kernel
theorem dX10_rake_56 : decode cX10_rake 56 = .ok (.invokevirtual 42, 3) := by decide +kernel
theorem dX10_rake_59 : decode cX10_rake 59 = .ok (.iload_n 2, 1) := by decide +kernel
theorem dX10_rake_60 : decode cX10_rake 60 = .ok (.ireturn, 1) := by decide +kernel
theorem dX10_radius_0 : decode cX10_radius 0 = .ok (.aload_n 0, 1) := by decide +kernel
theorem dX10_radius_1 : decode cX10_radius 1 = .ok (.iconst 0, 1) := by decide +kernel
theorem dX10_radius_2 : decode cX10_radius 2 = .ok (.putfield 38, 3) := by decide +kernel
theorem dX10_radius_5 : decode cX10_radius 5 = .ok (.iload_n 1, 1) := by decide +kernel
theorem dX10_radius_6 : decode cX10_radius 6 = .ok (.bipush 50, 2) := by decide +kernel
theorem dX10_radius_8 : decode cX10_radius 8 = .ok (.sipush 500, 3) := by decide +kernel
theorem dX10_radius_11 : decode cX10_radius 11 = .ok (.invokestatic 45, 3) := by decide +kernel
theorem dX10_radius_14 : decode cX10_radius 14 = .ok (.ifCond .ne 9, 3) := by decide +kernel
theorem dX10_radius_17 : decode cX10_radius 17 = .ok (.aload_n 0, 1) := by decide +kernel
theorem dX10_radius_18 : decode cX10_radius 18 = .ok (.iconst 1, 1) := by decide +kernel
theorem dX10_radius_19 : decode cX10_radius 19 = .ok (.invokevirtual 110, 3) := by decide +kernel
theorem dX10_radius_22 : decode cX10_radius 22 = .ok (.ireturn, 1) := by decide +kernel
theorem dX10_radius_23 : decode cX10_radius 23 = .ok (.aload_n 0, 1) := by decide +kernel
theorem dX10_radius_24 : decode cX10_radius 24 = .ok (.invokevirtual 113, 3) := by decide +kernel
theorem dX10_radius_27 : decode cX10_radius 27 = .ok (.aload_n 0, 1) := by decide +kernel
theorem dX10_radius_28 : decode cX10_radius 28 = .ok (.getfield 7, 3) := by decide +kernel
theorem dX10_radius_31 : decode cX10_radius 31 = .ok (.iconst 5, 1) := by decide +kernel
theorem dX10_radius_32 : decode cX10_radius 32 = .ok (.iaload, 1) := by decide +kernel
theorem dX10_radius_33 : decode cX10_radius 33 = .ok (.istore_n 2, 1) := by decide +kernel
theorem dX10_radius_34 : decode cX10_radius 34 = .ok (.aload_n 0, 1) := by decide +kernel
theorem dX10_radius_35 : decode cX10_radius 35 = .ok (.getfield 7, 3) := by decide +kernel
theorem dX10_radius_38 : decode cX10_radius 38 = .ok (.iconst 5, 1) := by decide +kernel
theorem dX10_radius_39 : decode cX10_radius 39 = .ok (.iload_n 1, 1) := by decide +kernel
theorem dX10_radius_40 : decode cX10_radius 40 = .ok (.iastore, 1) := by decide +kernel
theorem dX10_radius_41 : decode cX10_radius 41 = .ok (.iload_n 2, 1) := by decide +kernel
theorem dX10_radius_42 : decode cX10_radius 42 = .ok (.ireturn, 1) := by decide +kernel
theorem dX10_changes_0 : decode cX10_changes 0 = .ok (.aload_n 0, 1) := by decide +kernel
theorem dX10_changes_1 : decode cX10_changes 1 = .ok (.iload_n 1, 1) := by decide +kernel
theorem dX10_changes_2 : decode cX10_changes 2 = .ok (.invokevirtual 87, 3) := by decide +kernel
theorem dX10_changes_5 : decode cX10_changes 5 = .ok (.ifCond .ne 9, 3) := by decide +kernel
theorem dX10_changes_8 : decode cX10_changes 8 = .ok (.aload_n 0, 1) := by decide +kernel
theorem dX10_changes_9 : decode cX10_changes 9 = .ok (.iconst 1, 1) := by decide +kernel
theorem dX10_changes_10 : decode cX10_changes 10 = .ok (.invokevirtual 110, 3) := by decide +kernel
theorem dX10_changes_13 : decode cX10_changes 13 = .ok (.ireturn, 1) := by decide +kernel
theorem dX10_changes_14 : decode cX10_changes 14 = .ok (.iload_n 3, 1) := by decide +kernel
theorem dX10_changes_15 : decode cX10_changes 15 = .ok (.iconst 0, 1) := by decide +kernel
theorem dX10_changes_16 : decode cX10_changes 16 = .ok (.bipush 100, 2) := by decide +kernel
theorem dX10_changes_18 : decode cX10_changes 18 = .ok (.invokestatic 45, 3) := by decide +kernel
theorem dX10_changes_21 : decode cX10_changes 21 = .ok (.ifCond .ne 9, 3) := by decide +kernel
theorem dX10_changes_24 : decode cX10_changes 24 = .ok (.aload_n 0, 1) := by decide +kernel
theorem dX10_changes_25 : decode cX10_changes 25 = .ok (.iconst 2, 1) := by decide +kernel
theorem dX10_changes_26 : decode cX10_changes 26 = .ok (.invokevirtual 110, 3) := by decide +kernel
theorem dX10_changes_29 : decode cX10_changes 29 = .ok (.ireturn, 1) := by decide +kernel
theorem dX10_changes_30 : decode cX10_changes 30 = .ok (.aload_n 0, 1) := by decide +kernel
theorem dX10_changes_31 : decode cX10_changes 31 = .ok (.invokevirtual 113, 3) := by decide +kernel
theorem dX10_changes_34 : decode cX10_changes 34 = .ok (.aload_n 0, 1) := by decide +kernel
theorem dX10_changes_35 : decode cX10_changes 35 = .ok (.iload_n 1, 1) := by decide +kernel
theorem dX10_changes_36 : decode cX10_changes 36 = .ok (.iload_n 2, 1) := by decide +kernel
theorem dX10_changes_37 : decode cX10_changes 37 = .ok (.invokevirtual 71, 3) := by decide +kernel
theorem dX10_changes_40 : decode cX10_changes 40 = .ok (.istore 4, 2) := by decide +kernel
theorem dX10_changes_42 : decode cX10_changes 42 = .ok (.aload_n 0, 1) := by decide +kernel
theorem dX10_changes_43 : decode cX10_changes 43 = .ok (.iload_n 1, 1) := by decide +kernel
theorem dX10_changes_44 : decode cX10_changes 44 = .ok (.iload_n 2, 1) := by decide +kernel
theorem dX10_changes_45 : decode cX10_changes 45 = .ok (.iload_n 3, 1) := by decide +kernel
theorem dX10_changes_46 : decode cX10_changes 46 = .ok (.invokevirtual 49, 3) := by decide +kernel
theorem dX10_changes_49 : decode cX10_changes 49 = .ok (.iload 4, 2) := by decide +kernel
theorem dX10_changes_51 : decode cX10_changes 51 = .ok (.ireturn, 1) := by decide +kernel
theorem dX10_block_0 : decode cX10_block 0 = .ok (.aload_n 0, 1) := by decide +kernel
theorem dX10_block_1 : decode cX10_block 1 = .ok (.iconst 0, 1) := by decide +kernel
theorem dX10_block_2 : decode cX10_block 2 = .ok (.putfield 38, 3) := by decide +kernel
theorem dX10_block_5 : decode cX10_block 5 = .ok (.aload_n 0, 1) := by decide +kernel
theorem dX10_block_6 : decode cX10_block 6 = .ok (.iload_n 1, 1) := by decide +kernel
theorem dX10_block_7 : decode cX10_block 7 = .ok (.iconst 0, 1) := by decide +kernel
theorem dX10_block_8 : decode cX10_block 8 = .ok (.iload_n 2, 1) := by decide +kernel
theorem dX10_block_9 : decode cX10_block 9 = .ok (.invokevirtual 120, 3) := by decide +kernel
theorem dX10_block_12 : decode cX10_block 12 = .ok (.ireturn, 1) := by decide +kernel
theorem dX10_leak_0 : decode cX10_leak 0 = .ok (.aload_n 0, 1) := by decide +kernel
theorem dX10_leak_1 : decode cX10_leak 1 = .ok (.iconst 0, 1) := by decide +kernel
theorem dX10_leak_2 : decode cX10_leak 2 = .ok (.putfield 38, 3) := by decide +kernel
theorem dX10_leak_5 : decode cX10_leak 5 = .ok (.aload_n 0, 1) := by decide +kernel
theorem dX10_leak_6 : decode cX10_leak 6 = .ok (.iload_n 1, 1) := by decide +kernel
theorem dX10_leak_7 : decode cX10_leak 7 = .ok (.iconst 1, 1) := by decide +kernel
theorem dX10_leak_8 : decode cX10_leak 8 = .ok (.iload_n 2, 1) := by decide +kernel
theorem dX10_leak_9 : decode cX10_leak 9 = .ok (.invokevirtual 120, 3) := by decide +kernel
theorem dX10_leak_12 : decode cX10_leak 12 = .ok (.ireturn, 1) := by decide +kernel
theorem dX10_clean_0 : decode cX10_clean 0 = .ok (.aload_n 0, 1) := by decide +kernel
theorem dX10_clean_1 : decode cX10_clean 1 = .ok (.iconst 0, 1) := by decide +kernel
theorem dX10_clean_2 : decode cX10_clean 2 = .ok (.putfield 38, 3) := by decide +kernel
theorem dX10_clean_5 : decode cX10_clean 5 = .ok (.aload_n 0, 1) := by decide +kernel
theorem dX10_clean_6 : decode cX10_clean 6 = .ok (.iload_n 1, 1) := by decide +kernel
theorem dX10_clean_7 : decode cX10_clean 7 = .ok (.invokevirtual 87, 3) := by decide +kernel
theorem dX10_clean_10 : decode cX10_clean 10 = .ok (.ifCond .ne 9, 3) := by decide +kernel
theorem dX10_clean_13 : decode cX10_clean 13 = .ok (.aload_n 0, 1) := by decide +kernel
theorem dX10_clean_14 : decode cX10_clean 14 = .ok (.iconst 1, 1) := by decide +kernel
theorem dX10_clean_15 : decode cX10_clean 15 = .ok (.invokevirtual 110, 3) := by decide +kernel
theorem dX10_clean_18 : decode cX10_clean 18 = .ok (.ireturn, 1) := by decide +kernel
theorem dX10_clean_19 : decode cX10_clean 19 = .ok (.aload_n 0, 1) := by decide +kernel
theorem dX10_clean_20 : decode cX10_clean 20 = .ok (.invokevirtual 113, 3) := by decide +kernel
theorem dX10_clean_23 : decode cX10_clean 23 = .ok (.iconst 2, 1) := by decide +kernel
theorem dX10_clean_24 : decode cX10_clean 24 = .ok (.bipush 100, 2) := by decide +kernel
theorem dX10_clean_26 : decode cX10_clean 26 = .ok (.aload_n 0, 1) := by decide +kernel
theorem dX10_clean_27 : decode cX10_clean 27 = .ok (.iload_n 1, 1) := by decide +kernel
theorem dX10_clean_28 : decode cX10_clean 28 = .ok (.iconst 0, 1) := by decide +kernel
theorem dX10_clean_29 : decode cX10_clean 29 = .ok (.invokevirtual 71, 3) := by decide +kernel
theorem dX10_clean_32 : decode cX10_clean 32 = .ok (.isub, 1) := by decide +kernel
theorem dX10_clean_33 : decode cX10_clean 33 = .ok (.bipush 10, 2) := by decide +kernel
theorem dX10_clean_35 : decode cX10_clean 35 = .ok (.idiv, 1) := by decide +kernel
theorem dX10_clean_36 : decode cX10_clean 36 = .ok (.iadd, 1) := by decide +kernel
theorem dX10_clean_37 : decode cX10_clean 37 = .ok (.aload_n 0, 1) := by decide +kernel
theorem dX10_clean_38 : decode cX10_clean 38 = .ok (.iload_n 1, 1) := by decide +kernel
theorem dX10_clean_39 : decode cX10_clean 39 = .ok (.iconst 1, 1) := by decide +kernel
theorem dX10_clean_40 : decode cX10_clean 40 = .ok (.invokevirtual 71, 3) := by decide +kernel
theorem dX10_clean_43 : decode cX10_clean 43 = .ok (.ifCond .le 7, 3) := by decide +kernel
theorem dX10_clean_46 : decode cX10_clean 46 = .ok (.iconst 4, 1) := by decide +kernel
theorem dX10_clean_47 : decode cX10_clean 47 = .ok (.goto 4, 3) := by decide +kernel
theorem dX10_clean_50 : decode cX10_clean 50 = .ok (.iconst 0, 1) := by decide +kernel
theorem dX10_clean_51 : decode cX10_clean 51 = .ok (.iadd, 1) := by decide +kernel
theorem dX10_clean_52 : decode cX10_clean 52 = .ok (.istore_n 2, 1) := by decide +kernel
theorem dX10_clean_53 : decode cX10_clean 53 = .ok (.aload_n 0, 1) := by decide +kernel
theorem dX10_clean_54 : decode cX10_clean 54 = .ok (.iload_n 1, 1) := by decide +kernel
theorem dX10_clean_55 : decode cX10_clean 55 = .ok (.iconst 0, 1) := by decide +kernel
theorem dX10_clean_56 : decode cX10_clean 56 = .ok (.bipush 100, 2) := by decide +kernel
theorem dX10_clean_58 : decode cX10_clean 58 = .ok (.invokevirtual 49, 3) := by decide +kernel
theorem dX10_clean_61 : decode cX10_clean 61 = .ok (.aload_n 0, 1) := by decide +kernel
theorem dX10_clean_62 : decode cX10_clean 62 = .ok (.iload_n 1, 1) := by decide +kernel
theorem dX10_clean_63 : decode cX10_clean 63 = .ok (.iconst 1, 1) := by decide +kernel
theorem dX10_clean_64 : decode cX10_clean 64 = .ok (.iconst 0, 1) := by decide +kernel
theorem dX10_clean_65 : decode cX10_clean 65 = .ok (.invokevirtual 49, 3) := by decide +kernel
theorem dX10_clean_68 : decode cX10_clean 68 = .ok (.aload_n 0, 1) := by decide +kernel
theorem dX10_clean_69 : decode cX10_clean 69 = .ok (.iload_n 1, 1) := by decide +kernel
theorem dX10_clean_70 : decode cX10_clean 70 = .ok (.iconst 2, 1) := by decide +kernel
theorem dX10_clean_71 : decode cX10_clean 71 = .ok (.iconst 0, 1) := by decide +kernel
theorem dX10_clean_72 : decode cX10_clean 72 = .ok (.invokevirtual 49, 3) := by decide +kernel
theorem dX10_clean_75 : decode cX10_clean 75 = .ok (.aload_n 0, 1) := by decide +kernel
theorem dX10_clean_76 : decode cX10_clean 76 = .ok (.iload_n 1, 1) := by decide +kernel
theorem dX10_clean_77 : decode cX10_clean 77 = .ok (.iconst 3, 1) := by decide +kernel
theorem dX10_clean_78 : decode cX10_clean 78 = .ok (.aload_n 0, 1) := by decide +kernel
theorem dX10_clean_79 : decode cX10_clean 79 = .ok (.iload_n 1, 1) := by decide +kernel
theorem dX10_clean_80 : decode cX10_clean 80 = .ok (.iconst 3, 1) := by decide +kernel
theorem dX10_clean_81 : decode cX10_clean 81 = .ok (.invokevirtual 71, 3) := by decide +kernel
theorem dX10_clean_84 : decode cX10_clean 84 = .ok (.iload_n 2, 1) := by decide +kernel
theorem dX10_clean_85 : decode cX10_clean 85 = .ok (.iadd, 1) := by decide +kernel
theorem dX10_clean_86 : decode cX10_clean 86 = .ok (.invokevirtual 49, 3) := by decide +kernel
theorem dX10_clean_89 : decode cX10_clean 89 = .ok (.iload_n 2, 1) := by decide +kernel
theorem dX10_clean_90 : decode cX10_clean 90 = .ok (.ireturn, 1) := by decide +kernel
theorem dX10_test_0 : decode cX10_test 0 = .ok (.aload_n 0, 1) := by decide +kernel
theorem dX10_test_1 : decode cX10_test 1 = .ok (.iconst 0, 1) := by decide +kernel
theorem dX10_test_2 : decode cX10_test 2 = .ok (.putfield 38, 3) := by decide +kernel
theorem dX10_test_5 : decode cX10_test 5 = .ok (.aload_n 0, 1) := by decide +kernel
theorem dX10_test_6 : decode cX10_test 6 = .ok (.iload_n 1, 1) := by decide +kernel
theorem dX10_test_7 : decode cX10_test 7 = .ok (.invokevirtual 87, 3) := by decide +kernel
theorem dX10_test_10 : decode cX10_test 10 = .ok (.ifCond .ne 9, 3) := by decide +kernel
theorem dX10_test_13 : decode cX10_test 13 = .ok (.aload_n 0, 1) := by decide +kernel
theorem dX10_test_14 : decode cX10_test 14 = .ok (.iconst 1, 1) := by decide +kernel
theorem dX10_test_15 : decode cX10_test 15 = .ok (.invokevirtual 110, 3) := by decide +kernel
theorem dX10_test_18 : decode cX10_test 18 = .ok (.ireturn, 1) := by decide +kernel
theorem dX10_test_19 : decode cX10_test 19 = .ok (.aload_n 0, 1) := by decide +kernel
theorem dX10_test_20 : decode cX10_test 20 = .ok (.invokevirtual 113, 3) := by decide +kernel
theorem dX10_test_23 : decode cX10_test 23 = .ok (.aload_n 0, 1) := by decide +kernel
theorem dX10_test_24 : decode cX10_test 24 = .ok (.iload_n 1, 1) := by decide +kernel
theorem dX10_test_25 : decode cX10_test 25 = .ok (.iconst 1, 1) := by decide +kernel
theorem dX10_test_26 : decode cX10_test 26 = .ok (.invokevirtual 71, 3) := by decide +kernel
theorem dX10_test_29 : decode cX10_test 29 = .ok (.aload_n 0, 1) := by decide +kernel
theorem dX10_test_30 : decode cX10_test 30 = .ok (.getfield 7, 3) := by decide +kernel
theorem dX10_test_33 : decode cX10_test 33 = .ok (.iconst 4, 1) := by decide +kernel
theorem dX10_test_34 : decode cX10_test 34 = .ok (.iaload, 1) := by decide +kernel
theorem dX10_test_35 : decode cX10_test 35 = .ok (.if_icmp .le 7, 3) := by decide +kernel
theorem dX10_test_38 : decode cX10_test 38 = .ok (.iconst 2, 1) := by decide +kernel
theorem dX10_test_39 : decode cX10_test 39 = .ok (.goto 4, 3) := by decide +kernel
theorem dX10_test_42 : decode cX10_test 42 = .ok (.iconst 1, 1) := by decide +kernel
theorem dX10_test_43 : decode cX10_test 43 = .ok (.istore_n 2, 1) := by decide +kernel
theorem dX10_test_44 : decode cX10_test 44 = .ok (.aload_n 0, 1) := by decide +kernel
theorem dX10_test_45 : decode cX10_test 45 = .ok (.iload_n 1, 1) := by decide +kernel
theorem dX10_test_46 : decode cX10_test 46 = .ok (.iconst 2, 1) := by decide +kernel
theorem dX10_test_47 : decode cX10_test 47 = .ok (.iload_n 2, 1) := by decide +kernel
theorem dX10_test_48 : decode cX10_test 48 = .ok (.invokevirtual 49, 3) := by decide +kernel
theorem dX10_test_51 : decode cX10_test 51 = .ok (.aload_n 0, 1) := by decide +kernel
theorem dX10_test_52 : decode cX10_test 52 = .ok (.iload_n 1, 1) := by decide +kernel
theorem dX10_test_53 : decode cX10_test 53 = .ok (.iconst 3, 1) := by decide +kernel
theorem dX10_test_54 : decode cX10_test 54 = .ok (.aload_n 0, 1) := by decide +kernel
theorem dX10_test_55 : decode cX10_test 55 = .ok (.iload_n 1, 1) := by decide +kernel
theorem dX10_test_56 : decode cX10_test 56 = .ok (.iconst 3, 1) := by decide +kernel
theorem dX10_test_57 : decode cX10_test 57 = .ok (.invokevirtual 71, 3) := by decide +kernel
theorem dX10_test_60 : decode cX10_test 60 = .ok (.iconst 3, 1) := by decide +kernel
theorem dX10_test_61 : decode cX10_test 61 = .ok (.iadd, 1) := by decide +kernel
theorem dX10_test_62 : decode cX10_test 62 = .ok (.invokevirtual 49, 3) := by decide +kernel
theorem dX10_test_65 : decode cX10_test 65 = .ok (.iload_n 2, 1) := by decide +kernel
theorem dX10_test_66 : decode cX10_test 66 = .ok (.ireturn, 1) := by decide +kernel
theorem dX10_drops_0 : decode cX10_drops 0 = .ok (.aload_n 0, 1) := by decide +kernel
theorem dX10_drops_1 : decode cX10_drops 1 = .ok (.getfield 7, 3) := by decide +kernel
theorem dX10_drops_4 : decode cX10_drops 4 = .ok (.bipush 7, 2) := by decide +kernel
theorem dX10_drops_6 : decode cX10_drops 6 = .ok (.dup2, 1) := by decide +kernel
theorem dX10_drops_7 : decode cX10_drops 7 = .ok (.iaload, 1) := by decide +kernel
theorem dX10_drops_8 : decode cX10_drops 8 = .ok (.iconst 1, 1) := by decide +kernel
theorem dX10_drops_9 : decode cX10_drops 9 = .ok (.isub, 1) := by decide +kernel
theorem dX10_drops_10 : decode cX10_drops 10 = .ok (.iastore, 1) := by decide +kernel
theorem dX10_drops_11 : decode cX10_drops 11 = .ok (.bipush 10, 2) := by decide +kernel
theorem dX10_drops_13 : decode cX10_drops 13 = .ok (.iload_n 1, 1) := by decide +kernel
theorem dX10_drops_14 : decode cX10_drops 14 = .ok (.imul, 1) := by decide +kernel
theorem dX10_drops_15 : decode cX10_drops 15 = .ok (.istore_n 2, 1) := by decide +kernel
theorem dX10_drops_16 : decode cX10_drops 16 = .ok (.iload_n 2, 1) := by decide +kernel
theorem dX10_drops_17 : decode cX10_drops 17 = .ok (.bipush 10, 2) := by decide +kernel
theorem dX10_drops_19 : decode cX10_drops 19 = .ok (.aload_n 0, 1) := by decide +kernel
theorem dX10_drops_20 : decode cX10_drops 20 = .ok (.getfield 7, 3) := by decide +kernel
theorem dX10_drops_23 : decode cX10_drops 23 = .ok (.bipush 7, 2) := by decide +kernel
theorem dX10_drops_25 : decode cX10_drops 25 = .ok (.iaload, 1) := by decide +kernel
theorem dX10_drops_26 : decode cX10_drops 26 = .ok (.imul, 1) := by decide +kernel
theorem dX10_drops_27 : decode cX10_drops 27 = .ok (.if_icmp .ge 30, 3) := by decide +kernel
theorem dX10_drops_30 : decode cX10_drops 30 = .ok (.aload_n 0, 1) := by decide +kernel
theorem dX10_drops_31 : decode cX10_drops 31 = .ok (.getfield 7, 3) := by decide +kernel
theorem dX10_drops_34 : decode cX10_drops 34 = .ok (.bipush 42, 2) := by decide +kernel
theorem dX10_drops_36 : decode cX10_drops 36 = .ok (.iload_n 2, 1) := by decide +kernel
theorem dX10_drops_37 : decode cX10_drops 37 = .ok (.iadd, 1) := by decide +kernel
theorem dX10_drops_38 : decode cX10_drops 38 = .ok (.aload_n 0, 1) := by decide +kernel
theorem dX10_drops_39 : decode cX10_drops 39 = .ok (.getfield 7, 3) := by decide +kernel
theorem dX10_drops_42 : decode cX10_drops 42 = .ok (.bipush 42, 2) := by decide +kernel
theorem dX10_drops_44 : decode cX10_drops 44 = .ok (.iload_n 2, 1) := by decide +kernel
theorem dX10_drops_45 : decode cX10_drops 45 = .ok (.iadd, 1) := by decide +kernel
theorem dX10_drops_46 : decode cX10_drops 46 = .ok (.bipush 10, 2) := by decide +kernel
theorem dX10_drops_48 : decode cX10_drops 48 = .ok (.iadd, 1) := by decide +kernel
theorem dX10_drops_49 : decode cX10_drops 49 = .ok (.iaload, 1) := by decide +kernel
theorem dX10_drops_50 : decode cX10_drops 50 = .ok (.iastore, 1) := by decide +kernel
theorem dX10_drops_51 : decode cX10_drops 51 = .ok (.iinc 2 1, 3) := by decide +kernel
theorem dX10_drops_54 : decode cX10_drops 54 = .ok (.goto (-38), 3) := by decide +kernel
theorem dX10_drops_57 : decode cX10_drops 57 = .ok (.return_, 1) := by decide +kernel
theorem dX10_comes_0 : decode cX10_comes 0 = .ok (.aload_n 0, 1) := by decide +kernel
theorem dX10_comes_1 : decode cX10_comes 1 = .ok (.getfield 7, 3) := by decide +kernel
theorem dX10_comes_4 : decode cX10_comes 4 = .ok (.bipush 7, 2) := by decide +kernel
theorem dX10_comes_6 : decode cX10_comes 6 = .ok (.iaload, 1) := by decide +kernel
theorem dX10_comes_7 : decode cX10_comes 7 = .ok (.bipush 12, 2) := by decide +kernel
theorem dX10_comes_9 : decode cX10_comes 9 = .ok (.if_icmp .ne 8, 3) := by decide +kernel
theorem dX10_comes_12 : decode cX10_comes 12 = .ok (.aload_n 0, 1) := by decide +kernel
theorem dX10_comes_13 : decode cX10_comes 13 = .ok (.iconst 0, 1) := by decide +kernel
theorem dX10_comes_14 : decode cX10_comes 14 = .ok (.invokevirtual 124, 3) := by decide +kernel
theorem dX10_comes_17 : decode cX10_comes 17 = .ok (.bipush 42, 2) := by decide +kernel
theorem dX10_comes_19 : decode cX10_comes 19 = .ok (.bipush 10, 2) := by decide +kernel
theorem dX10_comes_21 : decode cX10_comes 21 = .ok (.aload_n 0, 1) := by decide +kernel
theorem dX10_comes_22 : decode cX10_comes 22 = .ok (.getfield 7, 3) := by decide +kernel
theorem dX10_comes_25 : decode cX10_comes 25 = .ok (.bipush 7, 2) := by decide +kernel
theorem dX10_comes_27 : decode cX10_comes 27 = .ok (.iaload, 1) := by decide +kernel
theorem dX10_comes_28 : decode cX10_comes 28 = .ok (.imul, 1) := by decide +kernel
theorem dX10_comes_29 : decode cX10_comes 29 = .ok (.iadd, 1) := by decide +kernel
theorem dX10_comes_30 : decode cX10_comes 30 = .ok (.istore_n 2, 1) := by decide +kernel
theorem dX10_comes_31 : decode cX10_comes 31 = .ok (.aload_n 0, 1) := by decide +kernel
theorem dX10_comes_32 : decode cX10_comes 32 = .ok (.getfield 7, 3) := by decide +kernel
theorem dX10_comes_35 : decode cX10_comes 35 = .ok (.iload_n 2, 1) := by decide +kernel
theorem dX10_comes_36 : decode cX10_comes 36 = .ok (.iload_n 1, 1) := by decide +kernel
theorem dX10_comes_37 : decode cX10_comes 37 = .ok (.iastore, 1) := by decide +kernel
theorem dX10_comes_38 : decode cX10_comes 38 = .ok (.aload_n 0, 1) := by decide +kernel
theorem dX10_comes_39 : decode cX10_comes 39 = .ok (.getfield 7, 3) := by decide +kernel
theorem dX10_comes_42 : decode cX10_comes 42 = .ok (.iload_n 2, 1) := by decide +kernel
theorem dX10_comes_43 : decode cX10_comes 43 = .ok (.iconst 1, 1) := by decide +kernel
theorem dX10_comes_44 : decode cX10_comes 44 = .ok (.iadd, 1) := by decide +kernel
theorem dX10_comes_45 : decode cX10_comes 45 = .ok (.aload_n 0, 1) := by decide +kernel
theorem dX10_comes_46 : decode cX10_comes 46 = .ok (.getfield 7, 3) := by decide +kernel
theorem dX10_comes_49 : decode cX10_comes 49 = .ok (.iconst 5, 1) := by decide +kernel
theorem dX10_comes_50 : decode cX10_comes 50 = .ok (.iaload, 1) := by decide +kernel
theorem dX10_comes_51 : decode cX10_comes 51 = .ok (.iastore, 1) := by decide +kernel
theorem dX10_comes_52 : decode cX10_comes 52 = .ok (.aload_n 0, 1) := by decide +kernel
theorem dX10_comes_53 : decode cX10_comes 53 = .ok (.getfield 7, 3) := by decide +kernel
theorem dX10_comes_56 : decode cX10_comes 56 = .ok (.bipush 7, 2) := by decide +kernel
theorem dX10_comes_58 : decode cX10_comes 58 = .ok (.dup2, 1) := by decide +kernel
theorem dX10_comes_59 : decode cX10_comes 59 = .ok (.iaload, 1) := by decide +kernel
theorem dX10_comes_60 : decode cX10_comes 60 = .ok (.iconst 1, 1) := by decide +kernel
theorem dX10_comes_61 : decode cX10_comes 61 = .ok (.iadd, 1) := by decide +kernel
theorem dX10_comes_62 : decode cX10_comes 62 = .ok (.iastore, 1) := by decide +kernel
theorem dX10_comes_63 : decode cX10_comes 63 = .ok (.aload_n 0, 1) := by decide +kernel
theorem dX10_comes_64 : decode cX10_comes 64 = .ok (.getfield 7, 3) := by decide +kernel
theorem dX10_comes_67 : decode cX10_comes 67 = .ok (.bipush 8, 2) := by decide +kernel
theorem dX10_comes_69 : decode cX10_comes 69 = .ok (.dup2, 1) := by decide +kernel
theorem dX10_comes_70 : decode cX10_comes 70 = .ok (.iaload, 1) := by decide +kernel
theorem dX10_comes_71 : decode cX10_comes 71 = .ok (.iconst 1, 1) := by decide +kernel
theorem dX10_comes_72 : decode cX10_comes 72 = .ok (.iadd, 1) := by decide +kernel
theorem dX10_comes_73 : decode cX10_comes 73 = .ok (.iastore, 1) := by decide +kernel
theorem dX10_comes_74 : decode cX10_comes 74 = .ok (.iload_n 2, 1) := by decide +kernel
theorem dX10_comes_75 : decode cX10_comes 75 = .ok (.iconst 2, 1) := by decide +kernel
theorem dX10_comes_76 : decode cX10_comes 76 = .ok (.iadd, 1) := by decide +kernel
theorem dX10_comes_77 : decode cX10_comes 77 = .ok (.ireturn, 1) := by decide +kernel
theorem dX10_read_0 : decode cX10_read 0 = .ok (.aload_n 0, 1) := by decide +kernel
theorem dX10_read_1 : decode cX10_read 1 = .ok (.iconst 0, 1) := by decide +kernel
theorem dX10_read_2 : decode cX10_read 2 = .ok (.putfield 38, 3) := by decide +kernel
theorem dX10_read_5 : decode cX10_read 5 = .ok (.aload_n 0, 1) := by decide +kernel
theorem dX10_read_6 : decode cX10_read 6 = .ok (.invokevirtual 113, 3) := by decide +kernel
theorem dX10_read_9 : decode cX10_read 9 = .ok (.aload_n 0, 1) := by decide +kernel
theorem dX10_read_10 : decode cX10_read 10 = .ok (.aload_n 0, 1) := by decide +kernel
theorem dX10_read_11 : decode cX10_read 11 = .ok (.getfield 7, 3) := by decide +kernel
theorem dX10_read_14 : decode cX10_read 14 = .ok (.bipush 6, 2) := by decide +kernel
theorem dX10_read_16 : decode cX10_read 16 = .ok (.iaload, 1) := by decide +kernel
theorem dX10_read_17 : decode cX10_read 17 = .ok (.invokevirtual 127, 3) := by decide +kernel
theorem dX10_read_20 : decode cX10_read 20 = .ok (.istore_n 1, 1) := by decide +kernel
theorem dX10_read_21 : decode cX10_read 21 = .ok (.iconst 0, 1) := by decide +kernel
theorem dX10_read_22 : decode cX10_read 22 = .ok (.istore_n 2, 1) := by decide +kernel
theorem dX10_read_23 : decode cX10_read 23 = .ok (.iload_n 2, 1) := by decide +kernel
theorem dX10_read_24 : decode cX10_read 24 = .ok (.aload_n 0, 1) := by decide +kernel
theorem dX10_read_25 : decode cX10_read 25 = .ok (.getfield 7, 3) := by decide +kernel
theorem dX10_read_28 : decode cX10_read 28 = .ok (.bipush 6, 2) := by decide +kernel
theorem dX10_read_30 : decode cX10_read 30 = .ok (.iaload, 1) := by decide +kernel
theorem dX10_read_31 : decode cX10_read 31 = .ok (.if_icmp .ge 22, 3) := by decide +kernel
theorem dX10_read_34 : decode cX10_read 34 = .ok (.aload_n 0, 1) := by decide +kernel
theorem dX10_read_35 : decode cX10_read 35 = .ok (.getfield 7, 3) := by decide +kernel
theorem dX10_read_38 : decode cX10_read 38 = .ok (.iload_n 1, 1) := by decide +kernel
theorem dX10_read_39 : decode cX10_read 39 = .ok (.iload_n 2, 1) := by decide +kernel
theorem dX10_read_40 : decode cX10_read 40 = .ok (.iadd, 1) := by decide +kernel
theorem dX10_read_41 : decode cX10_read 41 = .ok (.aload_n 0, 1) := by decide +kernel
theorem dX10_read_42 : decode cX10_read 42 = .ok (.iload_n 2, 1) := by decide +kernel
theorem dX10_read_43 : decode cX10_read 43 = .ok (.invokevirtual 130, 3) := by decide +kernel
theorem dX10_read_46 : decode cX10_read 46 = .ok (.iastore, 1) := by decide +kernel
theorem dX10_read_47 : decode cX10_read 47 = .ok (.iinc 2 1, 3) := by decide +kernel
theorem dX10_read_50 : decode cX10_read 50 = .ok (.goto (-27), 3) := by decide +kernel
theorem dX10_read_53 : decode cX10_read 53 = .ok (.aload_n 0, 1) := by decide +kernel
theorem dX10_read_54 : decode cX10_read 54 = .ok (.getfield 7, 3) := by decide +kernel
theorem dX10_read_57 : decode cX10_read 57 = .ok (.bipush 7, 2) := by decide +kernel
theorem dX10_read_59 : decode cX10_read 59 = .ok (.iaload, 1) := by decide +kernel
theorem dX10_read_60 : decode cX10_read 60 = .ok (.ireturn, 1) := by decide +kernel
theorem dX10_drop_0 : decode cX10_drop 0 = .ok (.aload_n 0, 1) := by decide +kernel
theorem dX10_drop_1 : decode cX10_drop 1 = .ok (.iconst 0, 1) := by decide +kernel
theorem dX10_drop_2 : decode cX10_drop 2 = .ok (.putfield 38, 3) := by decide +kernel
theorem dX10_drop_5 : decode cX10_drop 5 = .ok (.iload_n 1, 1) := by decide +kernel
theorem dX10_drop_6 : decode cX10_drop 6 = .ok (.iconst 0, 1) := by decide +kernel
theorem dX10_drop_7 : decode cX10_drop 7 = .ok (.aload_n 0, 1) := by decide +kernel
theorem dX10_drop_8 : decode cX10_drop 8 = .ok (.getfield 7, 3) := by decide +kernel
theorem dX10_drop_11 : decode cX10_drop 11 = .ok (.bipush 7, 2) := by decide +kernel
theorem dX10_drop_13 : decode cX10_drop 13 = .ok (.iaload, 1) := by decide +kernel
theorem dX10_drop_14 : decode cX10_drop 14 = .ok (.iconst 1, 1) := by decide +kernel
theorem dX10_drop_15 : decode cX10_drop 15 = .ok (.isub, 1) := by decide +kernel
theorem dX10_drop_16 : decode cX10_drop 16 = .ok (.invokestatic 45, 3) := by decide +kernel
theorem dX10_drop_19 : decode cX10_drop 19 = .ok (.ifCond .ne 9, 3) := by decide +kernel
theorem dX10_drop_22 : decode cX10_drop 22 = .ok (.aload_n 0, 1) := by decide +kernel
theorem dX10_drop_23 : decode cX10_drop 23 = .ok (.iconst 1, 1) := by decide +kernel
theorem dX10_drop_24 : decode cX10_drop 24 = .ok (.invokevirtual 110, 3) := by decide +kernel
theorem dX10_drop_27 : decode cX10_drop 27 = .ok (.ireturn, 1) := by decide +kernel
theorem dX10_drop_28 : decode cX10_drop 28 = .ok (.aload_n 0, 1) := by decide +kernel
theorem dX10_drop_29 : decode cX10_drop 29 = .ok (.invokevirtual 113, 3) := by decide +kernel
theorem dX10_drop_32 : decode cX10_drop 32 = .ok (.aload_n 0, 1) := by decide +kernel
theorem dX10_drop_33 : decode cX10_drop 33 = .ok (.iload_n 1, 1) := by decide +kernel
theorem dX10_drop_34 : decode cX10_drop 34 = .ok (.invokevirtual 124, 3) := by decide +kernel
theorem dX10_drop_37 : decode cX10_drop 37 = .ok (.aload_n 0, 1) := by decide +kernel
theorem dX10_drop_38 : decode cX10_drop 38 = .ok (.getfield 7, 3) := by decide +kernel
theorem dX10_drop_41 : decode cX10_drop 41 = .ok (.bipush 7, 2) := by decide +kernel
theorem dX10_drop_43 : decode cX10_drop 43 = .ok (.iaload, 1) := by decide +kernel
theorem dX10_drop_44 : decode cX10_drop 44 = .ok (.ireturn, 1) := by decide +kernel
theorem dX10_isSetting_0 : decode cX10_isSetting 0 = .ok (.iload_n 0, 1) := by decide +kernel
theorem dX10_isSetting_1 : decode cX10_isSetting 1 = .ok (.tableswitch 61 0 4 #[35, 61, 44, 61, 53], 35) := by decide +kernel
theorem dX10_isSetting_36 : decode cX10_isSetting 36 = .ok (.iload_n 1, 1) := by decide +kernel
theorem dX10_isSetting_37 : decode cX10_isSetting 37 = .ok (.iconst 0, 1) := by decide +kernel
theorem dX10_isSetting_38 : decode cX10_isSetting 38 = .ok (.sipush 20000, 3) := by decide +kernel
theorem dX10_isSetting_41 : decode cX10_isSetting 41 = .ok (.invokestatic 45, 3) := by decide +kernel
theorem dX10_isSetting_44 : decode cX10_isSetting 44 = .ok (.ireturn, 1) := by decide +kernel
theorem dX10_isSetting_45 : decode cX10_isSetting 45 = .ok (.iload_n 1, 1) := by decide +kernel
theorem dX10_isSetting_46 : decode cX10_isSetting 46 = .ok (.iconst 0, 1) := by decide +kernel
theorem dX10_isSetting_47 : decode cX10_isSetting 47 = .ok (.sipush 2000, 3) := by decide +kernel
theorem dX10_isSetting_50 : decode cX10_isSetting 50 = .ok (.invokestatic 45, 3) := by decide +kernel
theorem dX10_isSetting_53 : decode cX10_isSetting 53 = .ok (.ireturn, 1) := by decide +kernel
theorem dX10_isSetting_54 : decode cX10_isSetting 54 = .ok (.iload_n 1, 1) := by decide +kernel
theorem dX10_isSetting_55 : decode cX10_isSetting 55 = .ok (.iconst 0, 1) := by decide +kernel
theorem dX10_isSetting_56 : decode cX10_isSetting 56 = .ok (.bipush 50, 2) := by decide +kernel
theorem dX10_isSetting_58 : decode cX10_isSetting 58 = .ok (.invokestatic 45, 3) := by decide +kernel
theorem dX10_isSetting_61 : decode cX10_isSetting 61 = .ok (.ireturn, 1) := by decide +kernel
theorem dX10_isSetting_62 : decode cX10_isSetting 62 = .ok (.iload_n 1, 1) := by decide +kernel
theorem dX10_isSetting_63 : decode cX10_isSetting 63 = .ok (.iconst 0, 1) := by decide +kernel
theorem dX10_isSetting_64 : decode cX10_isSetting 64 = .ok (.bipush 100, 2) := by decide +kernel
theorem dX10_isSetting_66 : decode cX10_isSetting 66 = .ok (.invokestatic 45, 3) := by decide +kernel
theorem dX10_isSetting_69 : decode cX10_isSetting 69 = .ok (.ireturn, 1) := by decide +kernel
theorem dX10_set_0 : decode cX10_set 0 = .ok (.aload_n 0, 1) := by decide +kernel
theorem dX10_set_1 : decode cX10_set 1 = .ok (.iconst 0, 1) := by decide +kernel
theorem dX10_set_2 : decode cX10_set 2 = .ok (.putfield 38, 3) := by decide +kernel
theorem dX10_set_5 : decode cX10_set 5 = .ok (.iload_n 1, 1) := by decide +kernel
theorem dX10_set_6 : decode cX10_set 6 = .ok (.iconst 0, 1) := by decide +kernel
theorem dX10_set_7 : decode cX10_set 7 = .ok (.iconst 4, 1) := by decide +kernel
theorem dX10_set_8 : decode cX10_set 8 = .ok (.invokestatic 45, 3) := by decide +kernel
theorem dX10_set_11 : decode cX10_set 11 = .ok (.ifCond .ne 9, 3) := by decide +kernel
theorem dX10_set_14 : decode cX10_set 14 = .ok (.aload_n 0, 1) := by decide +kernel
theorem dX10_set_15 : decode cX10_set 15 = .ok (.iconst 1, 1) := by decide +kernel
theorem dX10_set_16 : decode cX10_set 16 = .ok (.invokevirtual 110, 3) := by decide +kernel
theorem dX10_set_19 : decode cX10_set 19 = .ok (.ireturn, 1) := by decide +kernel
theorem dX10_set_20 : decode cX10_set 20 = .ok (.iload_n 1, 1) := by decide +kernel
theorem dX10_set_21 : decode cX10_set 21 = .ok (.iload_n 2, 1) := by decide +kernel
theorem dX10_set_22 : decode cX10_set 22 = .ok (.invokestatic 133, 3) := by decide +kernel
theorem dX10_set_25 : decode cX10_set 25 = .ok (.ifCond .ne 9, 3) := by decide +kernel
theorem dX10_set_28 : decode cX10_set 28 = .ok (.aload_n 0, 1) := by decide +kernel
theorem dX10_set_29 : decode cX10_set 29 = .ok (.iconst 2, 1) := by decide +kernel
theorem dX10_set_30 : decode cX10_set 30 = .ok (.invokevirtual 110, 3) := by decide +kernel
theorem dX10_set_33 : decode cX10_set 33 = .ok (.ireturn, 1) := by decide +kernel
theorem dX10_set_34 : decode cX10_set 34 = .ok (.aload_n 0, 1) := by decide +kernel
theorem dX10_set_35 : decode cX10_set 35 = .ok (.invokevirtual 113, 3) := by decide +kernel
theorem dX10_set_38 : decode cX10_set 38 = .ok (.aload_n 0, 1) := by decide +kernel
theorem dX10_set_39 : decode cX10_set 39 = .ok (.getfield 7, 3) := by decide +kernel
theorem dX10_set_42 : decode cX10_set 42 = .ok (.iload_n 1, 1) := by decide +kernel
theorem dX10_set_43 : decode cX10_set 43 = .ok (.iaload, 1) := by decide +kernel
theorem dX10_set_44 : decode cX10_set 44 = .ok (.istore_n 3, 1) := by decide +kernel
theorem dX10_set_45 : decode cX10_set 45 = .ok (.aload_n 0, 1) := by decide +kernel
theorem dX10_set_46 : decode cX10_set 46 = .ok (.getfield 7, 3) := by decide +kernel
theorem dX10_set_49 : decode cX10_set 49 = .ok (.iload_n 1, 1) := by decide +kernel
theorem dX10_set_50 : decode cX10_set 50 = .ok (.iload_n 2, 1) := by decide +kernel
theorem dX10_set_51 : decode cX10_set 51 = .ok (.iastore, 1) := by decide +kernel
theorem dX10_set_52 : decode cX10_set 52 = .ok (.iload_n 3, 1) := by decide +kernel
theorem dX10_set_53 : decode cX10_set 53 = .ok (.ireturn, 1) := by decide +kernel
theorem dX10_append_0 : decode cX10_append 0 = .ok (.aload_n 0, 1) := by decide +kernel
theorem dX10_append_1 : decode cX10_append 1 = .ok (.iconst 0, 1) := by decide +kernel
theorem dX10_append_2 : decode cX10_append 2 = .ok (.putfield 38, 3) := by decide +kernel
theorem dX10_append_5 : decode cX10_append 5 = .ok (.iload_n 1, 1) := by decide +kernel
theorem dX10_append_6 : decode cX10_append 6 = .ok (.bipush 33, 2) := by decide +kernel
theorem dX10_append_8 : decode cX10_append 8 = .ok (.bipush 126, 2) := by decide +kernel
theorem dX10_append_10 : decode cX10_append 10 = .ok (.invokestatic 45, 3) := by decide +kernel
theorem dX10_append_13 : decode cX10_append 13 = .ok (.ifCond .ne 9, 3) := by decide +kernel
theorem dX10_append_16 : decode cX10_append 16 = .ok (.aload_n 0, 1) := by decide +kernel
theorem dX10_append_17 : decode cX10_append 17 = .ok (.iconst 1, 1) := by decide +kernel
theorem dX10_append_18 : decode cX10_append 18 = .ok (.invokevirtual 110, 3) := by decide +kernel
theorem dX10_append_21 : decode cX10_append 21 = .ok (.ireturn, 1) := by decide +kernel
theorem dX10_append_22 : decode cX10_append 22 = .ok (.aload_n 0, 1) := by decide +kernel
theorem dX10_append_23 : decode cX10_append 23 = .ok (.getfield 137, 3) := by decide +kernel
theorem dX10_append_26 : decode cX10_append 26 = .ok (.bipush 50, 2) := by decide +kernel
theorem dX10_append_28 : decode cX10_append 28 = .ok (.if_icmp .ne 9, 3) := by decide +kernel
theorem dX10_append_31 : decode cX10_append 31 = .ok (.aload_n 0, 1) := by decide +kernel
theorem dX10_append_32 : decode cX10_append 32 = .ok (.iconst 2, 1) := by decide +kernel
theorem dX10_append_33 : decode cX10_append 33 = .ok (.invokevirtual 110, 3) := by decide +kernel
theorem dX10_append_36 : decode cX10_append 36 = .ok (.ireturn, 1) := by decide +kernel
theorem dX10_append_37 : decode cX10_append 37 = .ok (.aload_n 0, 1) := by decide +kernel
theorem dX10_append_38 : decode cX10_append 38 = .ok (.getfield 23, 3) := by decide +kernel
theorem dX10_append_41 : decode cX10_append 41 = .ok (.aload_n 0, 1) := by decide +kernel
theorem dX10_append_42 : decode cX10_append 42 = .ok (.getfield 137, 3) := by decide +kernel
theorem dX10_append_45 : decode cX10_append 45 = .ok (.iload_n 1, 1) := by decide +kernel
theorem dX10_append_46 : decode cX10_append 46 = .ok (.iastore, 1) := by decide +kernel
theorem dX10_append_47 : decode cX10_append 47 = .ok (.aload_n 0, 1) := by decide +kernel
theorem dX10_append_48 : decode cX10_append 48 = .ok (.dup, 1) := by decide +kernel
theorem dX10_append_49 : decode cX10_append 49 = .ok (.getfield 137, 3) := by decide +kernel
theorem dX10_append_52 : decode cX10_append 52 = .ok (.iconst 1, 1) := by decide +kernel
theorem dX10_append_53 : decode cX10_append 53 = .ok (.iadd, 1) := by decide +kernel
theorem dX10_append_54 : decode cX10_append 54 = .ok (.putfield 137, 3) := by decide +kernel
theorem dX10_append_57 : decode cX10_append 57 = .ok (.aload_n 0, 1) := by decide +kernel
theorem dX10_append_58 : decode cX10_append 58 = .ok (.getfield 137, 3) := by decide +kernel
theorem dX10_append_61 : decode cX10_append 61 = .ok (.ireturn, 1) := by decide +kernel
theorem dX10_clearBuffer_0 : decode cX10_clearBuffer 0 = .ok (.aload_n 0, 1) := by decide +kernel
theorem dX10_clearBuffer_1 : decode cX10_clearBuffer 1 = .ok (.iconst 0, 1) := by decide +kernel
theorem dX10_clearBuffer_2 : decode cX10_clearBuffer 2 = .ok (.putfield 38, 3) := by decide +kernel
theorem dX10_clearBuffer_5 : decode cX10_clearBuffer 5 = .ok (.aload_n 0, 1) := by decide +kernel
theorem dX10_clearBuffer_6 : decode cX10_clearBuffer 6 = .ok (.getfield 137, 3) := by decide +kernel
theorem dX10_clearBuffer_9 : decode cX10_clearBuffer 9 = .ok (.istore_n 1, 1) := by decide +kernel
theorem dX10_clearBuffer_10 : decode cX10_clearBuffer 10 = .ok (.aload_n 0, 1) := by decide +kernel
theorem dX10_clearBuffer_11 : decode cX10_clearBuffer 11 = .ok (.iconst 0, 1) := by decide +kernel
theorem dX10_clearBuffer_12 : decode cX10_clearBuffer 12 = .ok (.putfield 137, 3) := by decide +kernel
theorem dX10_clearBuffer_15 : decode cX10_clearBuffer 15 = .ok (.iload_n 1, 1) := by decide +kernel
theorem dX10_clearBuffer_16 : decode cX10_clearBuffer 16 = .ok (.ireturn, 1) := by decide +kernel
theorem dX10_sign_0 : decode cX10_sign 0 = .ok (.aload_n 0, 1) := by decide +kernel
theorem dX10_sign_1 : decode cX10_sign 1 = .ok (.getfield 140, 3) := by decide +kernel
theorem dX10_sign_4 : decode cX10_sign 4 = .ok (.aload_n 0, 1) := by decide +kernel
theorem dX10_sign_5 : decode cX10_sign 5 = .ok (.getfield 137, 3) := by decide +kernel
theorem dX10_sign_8 : decode cX10_sign 8 = .ok (.if_icmp .ge 15, 3) := by decide +kernel
theorem dX10_sign_11 : decode cX10_sign 11 = .ok (.aload_n 0, 1) := by decide +kernel
theorem dX10_sign_12 : decode cX10_sign 12 = .ok (.getfield 23, 3) := by decide +kernel
theorem dX10_sign_15 : decode cX10_sign 15 = .ok (.aload_n 0, 1) := by decide +kernel
theorem dX10_sign_16 : decode cX10_sign 16 = .ok (.getfield 140, 3) := by decide +kernel
theorem dX10_sign_19 : decode cX10_sign 19 = .ok (.iaload, 1) := by decide +kernel
theorem dX10_sign_20 : decode cX10_sign 20 = .ok (.goto 4, 3) := by decide +kernel
theorem dX10_sign_23 : decode cX10_sign 23 = .ok (.iconst 0, 1) := by decide +kernel
theorem dX10_sign_24 : decode cX10_sign 24 = .ok (.ireturn, 1) := by decide +kernel
theorem dX10_readsHead_0 : decode cX10_readsHead 0 = .ok (.aload_n 0, 1) := by decide +kernel
theorem dX10_readsHead_1 : decode cX10_readsHead 1 = .ok (.aload_n 0, 1) := by decide +kernel
theorem dX10_readsHead_2 : decode cX10_readsHead 2 = .ok (.invokevirtual 143, 3) := by decide +kernel
theorem dX10_readsHead_5 : decode cX10_readsHead 5 = .ok (.bipush 48, 2) := by decide +kernel
theorem dX10_readsHead_7 : decode cX10_readsHead 7 = .ok (.bipush 57, 2) := by decide +kernel
theorem dX10_readsHead_9 : decode cX10_readsHead 9 = .ok (.invokestatic 45, 3) := by decide +kernel
theorem dX10_readsHead_12 : decode cX10_readsHead 12 = .ok (.putfield 146, 3) := by decide +kernel
theorem dX10_readsHead_15 : decode cX10_readsHead 15 = .ok (.aload_n 0, 1) := by decide +kernel
theorem dX10_readsHead_16 : decode cX10_readsHead 16 = .ok (.invokevirtual 143, 3) := by decide +kernel
theorem dX10_readsHead_19 : decode cX10_readsHead 19 = .ok (.bipush 48, 2) := by decide +kernel
theorem dX10_readsHead_21 : decode cX10_readsHead 21 = .ok (.isub, 1) := by decide +kernel
theorem dX10_readsHead_22 : decode cX10_readsHead 22 = .ok (.istore_n 1, 1) := by decide +kernel
theorem dX10_readsHead_23 : decode cX10_readsHead 23 = .ok (.aload_n 0, 1) := by decide +kernel
theorem dX10_readsHead_24 : decode cX10_readsHead 24 = .ok (.dup, 1) := by decide +kernel
theorem dX10_readsHead_25 : decode cX10_readsHead 25 = .ok (.getfield 140, 3) := by decide +kernel
theorem dX10_readsHead_28 : decode cX10_readsHead 28 = .ok (.aload_n 0, 1) := by decide +kernel
theorem dX10_readsHead_29 : decode cX10_readsHead 29 = .ok (.getfield 146, 3) := by decide +kernel
theorem dX10_readsHead_32 : decode cX10_readsHead 32 = .ok (.ifCond .eq 7, 3) := by decide +kernel
theorem dX10_readsHead_35 : decode cX10_readsHead 35 = .ok (.iconst 1, 1) := by decide +kernel
theorem dX10_readsHead_36 : decode cX10_readsHead 36 = .ok (.goto 4, 3) := by decide +kernel
theorem dX10_readsHead_39 : decode cX10_readsHead 39 = .ok (.iconst 0, 1) := by decide +kernel
theorem dX10_readsHead_40 : decode cX10_readsHead 40 = .ok (.iadd, 1) := by decide +kernel
theorem dX10_readsHead_41 : decode cX10_readsHead 41 = .ok (.putfield 140, 3) := by decide +kernel
theorem dX10_readsHead_44 : decode cX10_readsHead 44 = .ok (.aload_n 0, 1) := by decide +kernel
theorem dX10_readsHead_45 : decode cX10_readsHead 45 = .ok (.getfield 146, 3) := by decide +kernel
theorem dX10_readsHead_48 : decode cX10_readsHead 48 = .ok (.ifCond .eq 64, 3) := by decide +kernel
theorem dX10_readsHead_51 : decode cX10_readsHead 51 = .ok (.iload_n 1, 1) := by decide +kernel
theorem dX10_readsHead_52 : decode cX10_readsHead 52 = .ok (.ifCond .le 60, 3) := by decide +kernel
theorem dX10_readsHead_55 : decode cX10_readsHead 55 = .ok (.aload_n 0, 1) := by decide +kernel
theorem dX10_readsHead_56 : decode cX10_readsHead 56 = .ok (.invokevirtual 143, 3) := by decide +kernel
theorem dX10_readsHead_59 : decode cX10_readsHead 59 = .ok (.bipush 48, 2) := by decide +kernel
theorem dX10_readsHead_61 : decode cX10_readsHead 61 = .ok (.bipush 57, 2) := by decide +kernel
theorem dX10_readsHead_63 : decode cX10_readsHead 63 = .ok (.invokestatic 45, 3) := by decide +kernel
theorem dX10_readsHead_66 : decode cX10_readsHead 66 = .ok (.ifCond .eq 46, 3) := by decide +kernel
theorem dX10_readsHead_69 : decode cX10_readsHead 69 = .ok (.bipush 10, 2) := by decide +kernel
theorem dX10_readsHead_71 : decode cX10_readsHead 71 = .ok (.iload_n 1, 1) := by decide +kernel
theorem dX10_readsHead_72 : decode cX10_readsHead 72 = .ok (.imul, 1) := by decide +kernel
theorem dX10_readsHead_73 : decode cX10_readsHead 73 = .ok (.aload_n 0, 1) := by decide +kernel
theorem dX10_readsHead_74 : decode cX10_readsHead 74 = .ok (.invokevirtual 143, 3) := by decide +kernel
theorem dX10_readsHead_77 : decode cX10_readsHead 77 = .ok (.iadd, 1) := by decide +kernel
theorem dX10_readsHead_78 : decode cX10_readsHead 78 = .ok (.bipush 48, 2) := by decide +kernel
theorem dX10_readsHead_80 : decode cX10_readsHead 80 = .ok (.isub, 1) := by decide +kernel
theorem dX10_readsHead_81 : decode cX10_readsHead 81 = .ok (.ldc 150, 2) := by decide +kernel
theorem dX10_readsHead_83 : decode cX10_readsHead 83 = .ok (.if_icmp .gt 29, 3) := by decide +kernel
theorem dX10_readsHead_86 : decode cX10_readsHead 86 = .ok (.bipush 10, 2) := by decide +kernel
theorem dX10_readsHead_88 : decode cX10_readsHead 88 = .ok (.iload_n 1, 1) := by decide +kernel
theorem dX10_readsHead_89 : decode cX10_readsHead 89 = .ok (.imul, 1) := by decide +kernel
theorem dX10_readsHead_90 : decode cX10_readsHead 90 = .ok (.aload_n 0, 1) := by decide +kernel
theorem dX10_readsHead_91 : decode cX10_readsHead 91 = .ok (.invokevirtual 143, 3) := by decide +kernel
theorem dX10_readsHead_94 : decode cX10_readsHead 94 = .ok (.iadd, 1) := by decide +kernel
theorem dX10_readsHead_95 : decode cX10_readsHead 95 = .ok (.bipush 48, 2) := by decide +kernel
theorem dX10_readsHead_97 : decode cX10_readsHead 97 = .ok (.isub, 1) := by decide +kernel
theorem dX10_readsHead_98 : decode cX10_readsHead 98 = .ok (.istore_n 1, 1) := by decide +kernel
theorem dX10_readsHead_99 : decode cX10_readsHead 99 = .ok (.aload_n 0, 1) := by decide +kernel
theorem dX10_readsHead_100 : decode cX10_readsHead 100 = .ok (.dup, 1) := by decide +kernel
theorem dX10_readsHead_101 : decode cX10_readsHead 101 = .ok (.getfield 140, 3) := by decide +kernel
theorem dX10_readsHead_104 : decode cX10_readsHead 104 = .ok (.iconst 1, 1) := by decide +kernel
theorem dX10_readsHead_105 : decode cX10_readsHead 105 = .ok (.iadd, 1) := by decide +kernel
theorem dX10_readsHead_106 : decode cX10_readsHead 106 = .ok (.putfield 140, 3) := by decide +kernel
theorem dX10_readsHead_109 : decode cX10_readsHead 109 = .ok (.goto (-65), 3) := by decide +kernel
theorem dX10_readsHead_112 : decode cX10_readsHead 112 = .ok (.aload_n 0, 1) := by decide +kernel
theorem dX10_readsHead_113 : decode cX10_readsHead 113 = .ok (.getfield 35, 3) := by decide +kernel
theorem dX10_readsHead_116 : decode cX10_readsHead 116 = .ok (.aload_n 0, 1) := by decide +kernel
theorem dX10_readsHead_117 : decode cX10_readsHead 117 = .ok (.getfield 151, 3) := by decide +kernel
theorem dX10_readsHead_120 : decode cX10_readsHead 120 = .ok (.iload_n 1, 1) := by decide +kernel
theorem dX10_readsHead_121 : decode cX10_readsHead 121 = .ok (.iastore, 1) := by decide +kernel
theorem dX10_readsHead_122 : decode cX10_readsHead 122 = .ok (.aload_n 0, 1) := by decide +kernel
theorem dX10_readsHead_123 : decode cX10_readsHead 123 = .ok (.dup, 1) := by decide +kernel
theorem dX10_readsHead_124 : decode cX10_readsHead 124 = .ok (.getfield 151, 3) := by decide +kernel
theorem dX10_readsHead_127 : decode cX10_readsHead 127 = .ok (.aload_n 0, 1) := by decide +kernel
theorem dX10_readsHead_128 : decode cX10_readsHead 128 = .ok (.getfield 146, 3) := by decide +kernel
theorem dX10_readsHead_131 : decode cX10_readsHead 131 = .ok (.ifCond .eq 7, 3) := by decide +kernel
theorem dX10_readsHead_134 : decode cX10_readsHead 134 = .ok (.iconst 1, 1) := by decide +kernel
theorem dX10_readsHead_135 : decode cX10_readsHead 135 = .ok (.goto 4, 3) := by decide +kernel
theorem dX10_readsHead_138 : decode cX10_readsHead 138 = .ok (.iconst 0, 1) := by decide +kernel
theorem dX10_readsHead_139 : decode cX10_readsHead 139 = .ok (.iadd, 1) := by decide +kernel
theorem dX10_readsHead_140 : decode cX10_readsHead 140 = .ok (.putfield 151, 3) := by decide +kernel
theorem dX10_readsHead_143 : decode cX10_readsHead 143 = .ok (.return_, 1) := by decide +kernel
theorem dX10_readsAll_0 : decode cX10_readsAll 0 = .ok (.aload_n 0, 1) := by decide +kernel
theorem dX10_readsAll_1 : decode cX10_readsAll 1 = .ok (.iconst 0, 1) := by decide +kernel
theorem dX10_readsAll_2 : decode cX10_readsAll 2 = .ok (.putfield 140, 3) := by decide +kernel
theorem dX10_readsAll_5 : decode cX10_readsAll 5 = .ok (.aload_n 0, 1) := by decide +kernel
theorem dX10_readsAll_6 : decode cX10_readsAll 6 = .ok (.iconst 0, 1) := by decide +kernel
theorem dX10_readsAll_7 : decode cX10_readsAll 7 = .ok (.putfield 151, 3) := by decide +kernel
theorem dX10_readsAll_10 : decode cX10_readsAll 10 = .ok (.aload_n 0, 1) := by decide +kernel
theorem dX10_readsAll_11 : decode cX10_readsAll 11 = .ok (.invokevirtual 154, 3) := by decide +kernel
theorem dX10_readsAll_14 : decode cX10_readsAll 14 = .ok (.aload_n 0, 1) := by decide +kernel
theorem dX10_readsAll_15 : decode cX10_readsAll 15 = .ok (.getfield 146, 3) := by decide +kernel
theorem dX10_readsAll_18 : decode cX10_readsAll 18 = .ok (.ifCond .eq 76, 3) := by decide +kernel
theorem dX10_readsAll_21 : decode cX10_readsAll 21 = .ok (.aload_n 0, 1) := by decide +kernel
theorem dX10_readsAll_22 : decode cX10_readsAll 22 = .ok (.getfield 140, 3) := by decide +kernel
theorem dX10_readsAll_25 : decode cX10_readsAll 25 = .ok (.aload_n 0, 1) := by decide +kernel
theorem dX10_readsAll_26 : decode cX10_readsAll 26 = .ok (.getfield 137, 3) := by decide +kernel
theorem dX10_readsAll_29 : decode cX10_readsAll 29 = .ok (.if_icmp .ge 65, 3) := by decide +kernel
theorem dX10_readsAll_32 : decode cX10_readsAll 32 = .ok (.aload_n 0, 1) := by decide +kernel
theorem dX10_readsAll_33 : decode cX10_readsAll 33 = .ok (.aload_n 0, 1) := by decide +kernel
theorem dX10_readsAll_34 : decode cX10_readsAll 34 = .ok (.invokevirtual 143, 3) := by decide +kernel
theorem dX10_readsAll_37 : decode cX10_readsAll 37 = .ok (.bipush 44, 2) := by decide +kernel
theorem dX10_readsAll_39 : decode cX10_readsAll 39 = .ok (.if_icmp .ne 16, 3) := by decide +kernel
theorem dX10_readsAll_42 : decode cX10_readsAll 42 = .ok (.aload_n 0, 1) := by decide +kernel
theorem dX10_readsAll_43 : decode cX10_readsAll 43 = .ok (.getfield 151, 3) := by decide +kernel
theorem dX10_readsAll_46 : decode cX10_readsAll 46 = .ok (.bipush 8, 2) := by decide +kernel
theorem dX10_readsAll_48 : decode cX10_readsAll 48 = .ok (.if_icmp .ge 7, 3) := by decide +kernel
theorem dX10_readsAll_51 : decode cX10_readsAll 51 = .ok (.iconst 1, 1) := by decide +kernel
theorem dX10_readsAll_52 : decode cX10_readsAll 52 = .ok (.goto 4, 3) := by decide +kernel
theorem dX10_readsAll_55 : decode cX10_readsAll 55 = .ok (.iconst 0, 1) := by decide +kernel
theorem dX10_readsAll_56 : decode cX10_readsAll 56 = .ok (.putfield 146, 3) := by decide +kernel
theorem dX10_readsAll_59 : decode cX10_readsAll 59 = .ok (.aload_n 0, 1) := by decide +kernel
theorem dX10_readsAll_60 : decode cX10_readsAll 60 = .ok (.dup, 1) := by decide +kernel
theorem dX10_readsAll_61 : decode cX10_readsAll 61 = .ok (.getfield 140, 3) := by decide +kernel
theorem dX10_readsAll_64 : decode cX10_readsAll 64 = .ok (.aload_n 0, 1) := by decide +kernel
theorem dX10_readsAll_65 : decode cX10_readsAll 65 = .ok (.getfield 146, 3) := by decide +kernel
theorem dX10_readsAll_68 : decode cX10_readsAll 68 = .ok (.ifCond .eq 7, 3) := by decide +kernel
theorem dX10_readsAll_71 : decode cX10_readsAll 71 = .ok (.iconst 1, 1) := by decide +kernel
theorem dX10_readsAll_72 : decode cX10_readsAll 72 = .ok (.goto 4, 3) := by decide +kernel
theorem dX10_readsAll_75 : decode cX10_readsAll 75 = .ok (.iconst 0, 1) := by decide +kernel
theorem dX10_readsAll_76 : decode cX10_readsAll 76 = .ok (.iadd, 1) := by decide +kernel
theorem dX10_readsAll_77 : decode cX10_readsAll 77 = .ok (.putfield 140, 3) := by decide +kernel
theorem dX10_readsAll_80 : decode cX10_readsAll 80 = .ok (.aload_n 0, 1) := by decide +kernel
theorem dX10_readsAll_81 : decode cX10_readsAll 81 = .ok (.getfield 146, 3) := by decide +kernel
theorem dX10_readsAll_84 : decode cX10_readsAll 84 = .ok (.ifCond .eq (-70), 3) := by decide +kernel
theorem dX10_readsAll_87 : decode cX10_readsAll 87 = .ok (.aload_n 0, 1) := by decide +kernel
theorem dX10_readsAll_88 : decode cX10_readsAll 88 = .ok (.invokevirtual 154, 3) := by decide +kernel
theorem dX10_readsAll_91 : decode cX10_readsAll 91 = .ok (.goto (-77), 3) := by decide +kernel
theorem dX10_readsAll_94 : decode cX10_readsAll 94 = .ok (.return_, 1) := by decide +kernel
theorem dX10_firstError_0 : decode cX10_firstError 0 = .ok (.aload_n 0, 1) := by decide +kernel
theorem dX10_firstError_1 : decode cX10_firstError 1 = .ok (.iconst 0, 1) := by decide +kernel
theorem dX10_firstError_2 : decode cX10_firstError 2 = .ok (.putfield 38, 3) := by decide +kernel
theorem dX10_firstError_5 : decode cX10_firstError 5 = .ok (.aload_n 0, 1) := by decide +kernel
theorem dX10_firstError_6 : decode cX10_firstError 6 = .ok (.invokevirtual 157, 3) := by decide +kernel
theorem dX10_firstError_9 : decode cX10_firstError 9 = .ok (.aload_n 0, 1) := by decide +kernel
theorem dX10_firstError_10 : decode cX10_firstError 10 = .ok (.getfield 140, 3) := by decide +kernel
theorem dX10_firstError_13 : decode cX10_firstError 13 = .ok (.ireturn, 1) := by decide +kernel
theorem dX10_load_0 : decode cX10_load 0 = .ok (.aload_n 0, 1) := by decide +kernel
theorem dX10_load_1 : decode cX10_load 1 = .ok (.iconst 0, 1) := by decide +kernel
theorem dX10_load_2 : decode cX10_load 2 = .ok (.putfield 38, 3) := by decide +kernel
theorem dX10_load_5 : decode cX10_load 5 = .ok (.aload_n 0, 1) := by decide +kernel
theorem dX10_load_6 : decode cX10_load 6 = .ok (.invokevirtual 157, 3) := by decide +kernel
theorem dX10_load_9 : decode cX10_load 9 = .ok (.aload_n 0, 1) := by decide +kernel
theorem dX10_load_10 : decode cX10_load 10 = .ok (.getfield 146, 3) := by decide +kernel
theorem dX10_load_13 : decode cX10_load 13 = .ok (.ifCond .ne 9, 3) := by decide +kernel
theorem dX10_load_16 : decode cX10_load 16 = .ok (.aload_n 0, 1) := by decide +kernel
theorem dX10_load_17 : decode cX10_load 17 = .ok (.iconst 1, 1) := by decide +kernel
theorem dX10_load_18 : decode cX10_load 18 = .ok (.invokevirtual 110, 3) := by decide +kernel
theorem dX10_load_21 : decode cX10_load 21 = .ok (.ireturn, 1) := by decide +kernel
theorem dX10_load_22 : decode cX10_load 22 = .ok (.aload_n 0, 1) := by decide +kernel
theorem dX10_load_23 : decode cX10_load 23 = .ok (.invokevirtual 113, 3) := by decide +kernel
theorem dX10_load_26 : decode cX10_load 26 = .ok (.aload_n 0, 1) := by decide +kernel
theorem dX10_load_27 : decode cX10_load 27 = .ok (.iconst 0, 1) := by decide +kernel
theorem dX10_load_28 : decode cX10_load 28 = .ok (.putfield 137, 3) := by decide +kernel
theorem dX10_load_31 : decode cX10_load 31 = .ok (.aload_n 0, 1) := by decide +kernel
theorem dX10_load_32 : decode cX10_load 32 = .ok (.aload_n 0, 1) := by decide +kernel
theorem dX10_load_33 : decode cX10_load 33 = .ok (.getfield 151, 3) := by decide +kernel
theorem dX10_load_36 : decode cX10_load 36 = .ok (.invokevirtual 127, 3) := by decide +kernel
theorem dX10_load_39 : decode cX10_load 39 = .ok (.istore_n 1, 1) := by decide +kernel
theorem dX10_load_40 : decode cX10_load 40 = .ok (.iconst 0, 1) := by decide +kernel
theorem dX10_load_41 : decode cX10_load 41 = .ok (.istore_n 2, 1) := by decide +kernel
theorem dX10_load_42 : decode cX10_load 42 = .ok (.iload_n 2, 1) := by decide +kernel
theorem dX10_load_43 : decode cX10_load 43 = .ok (.aload_n 0, 1) := by decide +kernel
theorem dX10_load_44 : decode cX10_load 44 = .ok (.getfield 151, 3) := by decide +kernel
theorem dX10_load_47 : decode cX10_load 47 = .ok (.if_icmp .ge 23, 3) := by decide +kernel
theorem dX10_load_50 : decode cX10_load 50 = .ok (.aload_n 0, 1) := by decide +kernel
theorem dX10_load_51 : decode cX10_load 51 = .ok (.getfield 7, 3) := by decide +kernel
theorem dX10_load_54 : decode cX10_load 54 = .ok (.iload_n 1, 1) := by decide +kernel
theorem dX10_load_55 : decode cX10_load 55 = .ok (.iload_n 2, 1) := by decide +kernel
theorem dX10_load_56 : decode cX10_load 56 = .ok (.iadd, 1) := by decide +kernel
theorem dX10_load_57 : decode cX10_load 57 = .ok (.aload_n 0, 1) := by decide +kernel
theorem dX10_load_58 : decode cX10_load 58 = .ok (.getfield 35, 3) := by decide +kernel
theorem dX10_load_61 : decode cX10_load 61 = .ok (.iload_n 2, 1) := by decide +kernel
theorem dX10_load_62 : decode cX10_load 62 = .ok (.iaload, 1) := by decide +kernel
theorem dX10_load_63 : decode cX10_load 63 = .ok (.iastore, 1) := by decide +kernel
theorem dX10_load_64 : decode cX10_load 64 = .ok (.iinc 2 1, 3) := by decide +kernel
theorem dX10_load_67 : decode cX10_load 67 = .ok (.goto (-25), 3) := by decide +kernel
theorem dX10_load_70 : decode cX10_load 70 = .ok (.aload_n 0, 1) := by decide +kernel
theorem dX10_load_71 : decode cX10_load 71 = .ok (.getfield 151, 3) := by decide +kernel
theorem dX10_load_74 : decode cX10_load 74 = .ok (.ireturn, 1) := by decide +kernel
theorem dX10_keep_0 : decode cX10_keep 0 = .ok (.aload_n 0, 1) := by decide +kernel
theorem dX10_keep_1 : decode cX10_keep 1 = .ok (.iconst 0, 1) := by decide +kernel
theorem dX10_keep_2 : decode cX10_keep 2 = .ok (.putfield 38, 3) := by decide +kernel
theorem dX10_keep_5 : decode cX10_keep 5 = .ok (.iload_n 1, 1) := by decide +kernel
theorem dX10_keep_6 : decode cX10_keep 6 = .ok (.iconst 0, 1) := by decide +kernel
theorem dX10_keep_7 : decode cX10_keep 7 = .ok (.iconst 1, 1) := by decide +kernel
theorem dX10_keep_8 : decode cX10_keep 8 = .ok (.invokestatic 45, 3) := by decide +kernel
theorem dX10_keep_11 : decode cX10_keep 11 = .ok (.ifCond .ne 9, 3) := by decide +kernel
theorem dX10_keep_14 : decode cX10_keep 14 = .ok (.aload_n 0, 1) := by decide +kernel
theorem dX10_keep_15 : decode cX10_keep 15 = .ok (.iconst 1, 1) := by decide +kernel
theorem dX10_keep_16 : decode cX10_keep 16 = .ok (.invokevirtual 110, 3) := by decide +kernel
theorem dX10_keep_19 : decode cX10_keep 19 = .ok (.ireturn, 1) := by decide +kernel
theorem dX10_keep_20 : decode cX10_keep 20 = .ok (.iconst 0, 1) := by decide +kernel
theorem dX10_keep_21 : decode cX10_keep 21 = .ok (.istore_n 2, 1) := by decide +kernel
theorem dX10_keep_22 : decode cX10_keep 22 = .ok (.iload_n 2, 1) := by decide +kernel
theorem dX10_keep_23 : decode cX10_keep 23 = .ok (.sipush 162, 3) := by decide +kernel
theorem dX10_keep_26 : decode cX10_keep 26 = .ok (.if_icmp .ge 27, 3) := by decide +kernel
theorem dX10_keep_29 : decode cX10_keep 29 = .ok (.aload_n 0, 1) := by decide +kernel
theorem dX10_keep_30 : decode cX10_keep 30 = .ok (.getfield 16, 3) := by decide +kernel
theorem dX10_keep_33 : decode cX10_keep 33 = .ok (.sipush 162, 3) := by decide +kernel
theorem dX10_keep_36 : decode cX10_keep 36 = .ok (.iload_n 1, 1) := by decide +kernel
theorem dX10_keep_37 : decode cX10_keep 37 = .ok (.imul, 1) := by decide +kernel
theorem dX10_keep_38 : decode cX10_keep 38 = .ok (.iload_n 2, 1) := by decide +kernel
theorem dX10_keep_39 : decode cX10_keep 39 = .ok (.iadd, 1) := by decide +kernel
theorem dX10_keep_40 : decode cX10_keep 40 = .ok (.aload_n 0, 1) := by decide +kernel
theorem dX10_keep_41 : decode cX10_keep 41 = .ok (.getfield 7, 3) := by decide +kernel
theorem dX10_keep_44 : decode cX10_keep 44 = .ok (.iload_n 2, 1) := by decide +kernel
theorem dX10_keep_45 : decode cX10_keep 45 = .ok (.iaload, 1) := by decide +kernel
theorem dX10_keep_46 : decode cX10_keep 46 = .ok (.iastore, 1) := by decide +kernel
theorem dX10_keep_47 : decode cX10_keep 47 = .ok (.iinc 2 1, 3) := by decide +kernel
theorem dX10_keep_50 : decode cX10_keep 50 = .ok (.goto (-28), 3) := by decide +kernel
theorem dX10_keep_53 : decode cX10_keep 53 = .ok (.aload_n 0, 1) := by decide +kernel
theorem dX10_keep_54 : decode cX10_keep 54 = .ok (.getfield 19, 3) := by decide +kernel
theorem dX10_keep_57 : decode cX10_keep 57 = .ok (.iload_n 1, 1) := by decide +kernel
theorem dX10_keep_58 : decode cX10_keep 58 = .ok (.iconst 1, 1) := by decide +kernel
theorem dX10_keep_59 : decode cX10_keep 59 = .ok (.bastore, 1) := by decide +kernel
theorem dX10_keep_60 : decode cX10_keep 60 = .ok (.aload_n 0, 1) := by decide +kernel
theorem dX10_keep_61 : decode cX10_keep 61 = .ok (.getfield 7, 3) := by decide +kernel
theorem dX10_keep_64 : decode cX10_keep 64 = .ok (.bipush 7, 2) := by decide +kernel
theorem dX10_keep_66 : decode cX10_keep 66 = .ok (.iaload, 1) := by decide +kernel
theorem dX10_keep_67 : decode cX10_keep 67 = .ok (.ireturn, 1) := by decide +kernel
theorem dX10_goBack_0 : decode cX10_goBack 0 = .ok (.aload_n 0, 1) := by decide +kernel
theorem dX10_goBack_1 : decode cX10_goBack 1 = .ok (.iconst 0, 1) := by decide +kernel
theorem dX10_goBack_2 : decode cX10_goBack 2 = .ok (.putfield 38, 3) := by decide +kernel
theorem dX10_goBack_5 : decode cX10_goBack 5 = .ok (.iload_n 1, 1) := by decide +kernel
theorem dX10_goBack_6 : decode cX10_goBack 6 = .ok (.iconst 0, 1) := by decide +kernel
theorem dX10_goBack_7 : decode cX10_goBack 7 = .ok (.iconst 1, 1) := by decide +kernel
theorem dX10_goBack_8 : decode cX10_goBack 8 = .ok (.invokestatic 45, 3) := by decide +kernel
theorem dX10_goBack_11 : decode cX10_goBack 11 = .ok (.ifCond .ne 9, 3) := by decide +kernel
theorem dX10_goBack_14 : decode cX10_goBack 14 = .ok (.aload_n 0, 1) := by decide +kernel
theorem dX10_goBack_15 : decode cX10_goBack 15 = .ok (.iconst 1, 1) := by decide +kernel
theorem dX10_goBack_16 : decode cX10_goBack 16 = .ok (.invokevirtual 110, 3) := by decide +kernel
theorem dX10_goBack_19 : decode cX10_goBack 19 = .ok (.ireturn, 1) := by decide +kernel
theorem dX10_goBack_20 : decode cX10_goBack 20 = .ok (.aload_n 0, 1) := by decide +kernel
theorem dX10_goBack_21 : decode cX10_goBack 21 = .ok (.getfield 19, 3) := by decide +kernel
theorem dX10_goBack_24 : decode cX10_goBack 24 = .ok (.iload_n 1, 1) := by decide +kernel
theorem dX10_goBack_25 : decode cX10_goBack 25 = .ok (.baload, 1) := by decide +kernel
theorem dX10_goBack_26 : decode cX10_goBack 26 = .ok (.ifCond .ne 9, 3) := by decide +kernel
theorem dX10_goBack_29 : decode cX10_goBack 29 = .ok (.aload_n 0, 1) := by decide +kernel
theorem dX10_goBack_30 : decode cX10_goBack 30 = .ok (.iconst 2, 1) := by decide +kernel
theorem dX10_goBack_31 : decode cX10_goBack 31 = .ok (.invokevirtual 110, 3) := by decide +kernel
theorem dX10_goBack_34 : decode cX10_goBack 34 = .ok (.ireturn, 1) := by decide +kernel
theorem dX10_goBack_35 : decode cX10_goBack 35 = .ok (.aload_n 0, 1) := by decide +kernel
theorem dX10_goBack_36 : decode cX10_goBack 36 = .ok (.invokevirtual 113, 3) := by decide +kernel
theorem dX10_goBack_39 : decode cX10_goBack 39 = .ok (.iconst 0, 1) := by decide +kernel
theorem dX10_goBack_40 : decode cX10_goBack 40 = .ok (.istore_n 2, 1) := by decide +kernel
theorem dX10_goBack_41 : decode cX10_goBack 41 = .ok (.iload_n 2, 1) := by decide +kernel
theorem dX10_goBack_42 : decode cX10_goBack 42 = .ok (.sipush 162, 3) := by decide +kernel
theorem dX10_goBack_45 : decode cX10_goBack 45 = .ok (.if_icmp .ge 27, 3) := by decide +kernel
theorem dX10_goBack_48 : decode cX10_goBack 48 = .ok (.aload_n 0, 1) := by decide +kernel
theorem dX10_goBack_49 : decode cX10_goBack 49 = .ok (.getfield 7, 3) := by decide +kernel
theorem dX10_goBack_52 : decode cX10_goBack 52 = .ok (.iload_n 2, 1) := by decide +kernel
theorem dX10_goBack_53 : decode cX10_goBack 53 = .ok (.aload_n 0, 1) := by decide +kernel
theorem dX10_goBack_54 : decode cX10_goBack 54 = .ok (.getfield 16, 3) := by decide +kernel
theorem dX10_goBack_57 : decode cX10_goBack 57 = .ok (.sipush 162, 3) := by decide +kernel
theorem dX10_goBack_60 : decode cX10_goBack 60 = .ok (.iload_n 1, 1) := by decide +kernel
theorem dX10_goBack_61 : decode cX10_goBack 61 = .ok (.imul, 1) := by decide +kernel
theorem dX10_goBack_62 : decode cX10_goBack 62 = .ok (.iload_n 2, 1) := by decide +kernel
theorem dX10_goBack_63 : decode cX10_goBack 63 = .ok (.iadd, 1) := by decide +kernel
theorem dX10_goBack_64 : decode cX10_goBack 64 = .ok (.iaload, 1) := by decide +kernel
theorem dX10_goBack_65 : decode cX10_goBack 65 = .ok (.iastore, 1) := by decide +kernel
theorem dX10_goBack_66 : decode cX10_goBack 66 = .ok (.iinc 2 1, 3) := by decide +kernel
theorem dX10_goBack_69 : decode cX10_goBack 69 = .ok (.goto (-28), 3) := by decide +kernel
theorem dX10_goBack_72 : decode cX10_goBack 72 = .ok (.aload_n 0, 1) := by decide +kernel
theorem dX10_goBack_73 : decode cX10_goBack 73 = .ok (.getfield 7, 3) := by decide +kernel
theorem dX10_goBack_76 : decode cX10_goBack 76 = .ok (.bipush 7, 2) := by decide +kernel
theorem dX10_goBack_78 : decode cX10_goBack 78 = .ok (.iaload, 1) := by decide +kernel
theorem dX10_goBack_79 : decode cX10_goBack 79 = .ok (.ireturn, 1) := by decide +kernel
theorem dX10_undo_0 : decode cX10_undo 0 = .ok (.aload_n 0, 1) := by decide +kernel
theorem dX10_undo_1 : decode cX10_undo 1 = .ok (.iconst 0, 1) := by decide +kernel
theorem dX10_undo_2 : decode cX10_undo 2 = .ok (.putfield 38, 3) := by decide +kernel
theorem dX10_undo_5 : decode cX10_undo 5 = .ok (.aload_n 0, 1) := by decide +kernel
theorem dX10_undo_6 : decode cX10_undo 6 = .ok (.getfield 53, 3) := by decide +kernel
theorem dX10_undo_9 : decode cX10_undo 9 = .ok (.ifCond .ne 9, 3) := by decide +kernel
theorem dX10_undo_12 : decode cX10_undo 12 = .ok (.aload_n 0, 1) := by decide +kernel
theorem dX10_undo_13 : decode cX10_undo 13 = .ok (.iconst 1, 1) := by decide +kernel
theorem dX10_undo_14 : decode cX10_undo 14 = .ok (.invokevirtual 110, 3) := by decide +kernel
theorem dX10_undo_17 : decode cX10_undo 17 = .ok (.ireturn, 1) := by decide +kernel
theorem dX10_undo_18 : decode cX10_undo 18 = .ok (.aload_n 0, 1) := by decide +kernel
theorem dX10_undo_19 : decode cX10_undo 19 = .ok (.dup, 1) := by decide +kernel
theorem dX10_undo_20 : decode cX10_undo 20 = .ok (.getfield 53, 3) := by decide +kernel
theorem dX10_undo_23 : decode cX10_undo 23 = .ok (.iconst 1, 1) := by decide +kernel
theorem dX10_undo_24 : decode cX10_undo 24 = .ok (.isub, 1) := by decide +kernel
theorem dX10_undo_25 : decode cX10_undo 25 = .ok (.putfield 53, 3) := by decide +kernel
theorem dX10_undo_28 : decode cX10_undo 28 = .ok (.iconst 0, 1) := by decide +kernel
theorem dX10_undo_29 : decode cX10_undo 29 = .ok (.istore_n 1, 1) := by decide +kernel
theorem dX10_undo_30 : decode cX10_undo 30 = .ok (.iload_n 1, 1) := by decide +kernel
theorem dX10_undo_31 : decode cX10_undo 31 = .ok (.sipush 162, 3) := by decide +kernel
theorem dX10_undo_34 : decode cX10_undo 34 = .ok (.if_icmp .ge 30, 3) := by decide +kernel
theorem dX10_undo_37 : decode cX10_undo 37 = .ok (.aload_n 0, 1) := by decide +kernel
theorem dX10_undo_38 : decode cX10_undo 38 = .ok (.getfield 7, 3) := by decide +kernel
theorem dX10_undo_41 : decode cX10_undo 41 = .ok (.iload_n 1, 1) := by decide +kernel
theorem dX10_undo_42 : decode cX10_undo 42 = .ok (.aload_n 0, 1) := by decide +kernel
theorem dX10_undo_43 : decode cX10_undo 43 = .ok (.getfield 13, 3) := by decide +kernel
theorem dX10_undo_46 : decode cX10_undo 46 = .ok (.sipush 162, 3) := by decide +kernel
theorem dX10_undo_49 : decode cX10_undo 49 = .ok (.aload_n 0, 1) := by decide +kernel
theorem dX10_undo_50 : decode cX10_undo 50 = .ok (.getfield 53, 3) := by decide +kernel
theorem dX10_undo_53 : decode cX10_undo 53 = .ok (.imul, 1) := by decide +kernel
theorem dX10_undo_54 : decode cX10_undo 54 = .ok (.iload_n 1, 1) := by decide +kernel
theorem dX10_undo_55 : decode cX10_undo 55 = .ok (.iadd, 1) := by decide +kernel
theorem dX10_undo_56 : decode cX10_undo 56 = .ok (.iaload, 1) := by decide +kernel
theorem dX10_undo_57 : decode cX10_undo 57 = .ok (.iastore, 1) := by decide +kernel
theorem dX10_undo_58 : decode cX10_undo 58 = .ok (.iinc 1 1, 3) := by decide +kernel
theorem dX10_undo_61 : decode cX10_undo 61 = .ok (.goto (-31), 3) := by decide +kernel
theorem dX10_undo_64 : decode cX10_undo 64 = .ok (.aload_n 0, 1) := by decide +kernel
theorem dX10_undo_65 : decode cX10_undo 65 = .ok (.getfield 53, 3) := by decide +kernel
theorem dX10_undo_68 : decode cX10_undo 68 = .ok (.ireturn, 1) := by decide +kernel
theorem dX10_tellsHole_0 : decode cX10_tellsHole 0 = .ok (.aload_n 0, 1) := by decide +kernel
theorem dX10_tellsHole_1 : decode cX10_tellsHole 1 = .ok (.invokevirtual 160, 3) := by decide +kernel
theorem dX10_tellsHole_4 : decode cX10_tellsHole 4 = .ok (.iload_n 2, 1) := by decide +kernel
theorem dX10_tellsHole_5 : decode cX10_tellsHole 5 = .ok (.tableswitch 158 0 10 #[59, 72, 72, 72, 81, 94, 100, 106, 124, 131, 149], 59) := by decide +kernel
theorem dX10_tellsHole_64 : decode cX10_tellsHole 64 = .ok (.aload_n 0, 1) := by decide +kernel
theorem dX10_tellsHole_65 : decode cX10_tellsHole 65 = .ok (.iload_n 1, 1) := by decide +kernel
theorem dX10_tellsHole_66 : decode cX10_tellsHole 66 = .ok (.aload_n 0, 1) := by decide +kernel
theorem dX10_tellsHole_67 : decode cX10_tellsHole 67 = .ok (.getfield 7, 3) := by decide +kernel
theorem dX10_tellsHole_70 : decode cX10_tellsHole 70 = .ok (.bipush 6, 2) := by decide +kernel
theorem dX10_tellsHole_72 : decode cX10_tellsHole 72 = .ok (.iaload, 1) := by decide +kernel
theorem dX10_tellsHole_73 : decode cX10_tellsHole 73 = .ok (.invokevirtual 61, 3) := by decide +kernel
theorem dX10_tellsHole_76 : decode cX10_tellsHole 76 = .ok (.ireturn, 1) := by decide +kernel
theorem dX10_tellsHole_77 : decode cX10_tellsHole 77 = .ok (.aload_n 0, 1) := by decide +kernel
theorem dX10_tellsHole_78 : decode cX10_tellsHole 78 = .ok (.iload_n 1, 1) := by decide +kernel
theorem dX10_tellsHole_79 : decode cX10_tellsHole 79 = .ok (.iload_n 2, 1) := by decide +kernel
theorem dX10_tellsHole_80 : decode cX10_tellsHole 80 = .ok (.iconst 1, 1) := by decide +kernel
theorem dX10_tellsHole_81 : decode cX10_tellsHole 81 = .ok (.isub, 1) := by decide +kernel
theorem dX10_tellsHole_82 : decode cX10_tellsHole 82 = .ok (.invokevirtual 71, 3) := by decide +kernel
theorem dX10_tellsHole_85 : decode cX10_tellsHole 85 = .ok (.ireturn, 1) := by decide +kernel
theorem dX10_tellsHole_86 : decode cX10_tellsHole 86 = .ok (.aload_n 0, 1) := by decide +kernel
theorem dX10_tellsHole_87 : decode cX10_tellsHole 87 = .ok (.iload_n 1, 1) := by decide +kernel
theorem dX10_tellsHole_88 : decode cX10_tellsHole 88 = .ok (.aload_n 0, 1) := by decide +kernel
theorem dX10_tellsHole_89 : decode cX10_tellsHole 89 = .ok (.getfield 7, 3) := by decide +kernel
theorem dX10_tellsHole_92 : decode cX10_tellsHole 92 = .ok (.bipush 6, 2) := by decide +kernel
theorem dX10_tellsHole_94 : decode cX10_tellsHole 94 = .ok (.iaload, 1) := by decide +kernel
theorem dX10_tellsHole_95 : decode cX10_tellsHole 95 = .ok (.invokevirtual 65, 3) := by decide +kernel
theorem dX10_tellsHole_98 : decode cX10_tellsHole 98 = .ok (.ireturn, 1) := by decide +kernel
theorem dX10_tellsHole_99 : decode cX10_tellsHole 99 = .ok (.aload_n 0, 1) := by decide +kernel
theorem dX10_tellsHole_100 : decode cX10_tellsHole 100 = .ok (.iload_n 1, 1) := by decide +kernel
theorem dX10_tellsHole_101 : decode cX10_tellsHole 101 = .ok (.invokevirtual 68, 3) := by decide +kernel
theorem dX10_tellsHole_104 : decode cX10_tellsHole 104 = .ok (.ireturn, 1) := by decide +kernel
theorem dX10_tellsHole_105 : decode cX10_tellsHole 105 = .ok (.aload_n 0, 1) := by decide +kernel
theorem dX10_tellsHole_106 : decode cX10_tellsHole 106 = .ok (.iload_n 1, 1) := by decide +kernel
theorem dX10_tellsHole_107 : decode cX10_tellsHole 107 = .ok (.invokevirtual 130, 3) := by decide +kernel
theorem dX10_tellsHole_110 : decode cX10_tellsHole 110 = .ok (.ireturn, 1) := by decide +kernel
theorem dX10_tellsHole_111 : decode cX10_tellsHole 111 = .ok (.aload_n 0, 1) := by decide +kernel
theorem dX10_tellsHole_112 : decode cX10_tellsHole 112 = .ok (.getfield 80, 3) := by decide +kernel
theorem dX10_tellsHole_115 : decode cX10_tellsHole 115 = .ok (.ifCond .ne 7, 3) := by decide +kernel
theorem dX10_tellsHole_118 : decode cX10_tellsHole 118 = .ok (.iconst (-1), 1) := by decide +kernel
theorem dX10_tellsHole_119 : decode cX10_tellsHole 119 = .ok (.goto 9, 3) := by decide +kernel
theorem dX10_tellsHole_122 : decode cX10_tellsHole 122 = .ok (.aload_n 0, 1) := by decide +kernel
theorem dX10_tellsHole_123 : decode cX10_tellsHole 123 = .ok (.getfield 26, 3) := by decide +kernel
theorem dX10_tellsHole_126 : decode cX10_tellsHole 126 = .ok (.iload_n 1, 1) := by decide +kernel
theorem dX10_tellsHole_127 : decode cX10_tellsHole 127 = .ok (.iaload, 1) := by decide +kernel
theorem dX10_tellsHole_128 : decode cX10_tellsHole 128 = .ok (.ireturn, 1) := by decide +kernel
theorem dX10_tellsHole_129 : decode cX10_tellsHole 129 = .ok (.aload_n 0, 1) := by decide +kernel
theorem dX10_tellsHole_130 : decode cX10_tellsHole 130 = .ok (.getfield 29, 3) := by decide +kernel
theorem dX10_tellsHole_133 : decode cX10_tellsHole 133 = .ok (.iload_n 1, 1) := by decide +kernel
theorem dX10_tellsHole_134 : decode cX10_tellsHole 134 = .ok (.iaload, 1) := by decide +kernel
theorem dX10_tellsHole_135 : decode cX10_tellsHole 135 = .ok (.ireturn, 1) := by decide +kernel
theorem dX10_tellsHole_136 : decode cX10_tellsHole 136 = .ok (.aload_n 0, 1) := by decide +kernel
theorem dX10_tellsHole_137 : decode cX10_tellsHole 137 = .ok (.getfield 93, 3) := by decide +kernel
theorem dX10_tellsHole_140 : decode cX10_tellsHole 140 = .ok (.ifCond .ne 7, 3) := by decide +kernel
theorem dX10_tellsHole_143 : decode cX10_tellsHole 143 = .ok (.iconst (-1), 1) := by decide +kernel
theorem dX10_tellsHole_144 : decode cX10_tellsHole 144 = .ok (.goto 9, 3) := by decide +kernel
theorem dX10_tellsHole_147 : decode cX10_tellsHole 147 = .ok (.aload_n 0, 1) := by decide +kernel
theorem dX10_tellsHole_148 : decode cX10_tellsHole 148 = .ok (.getfield 32, 3) := by decide +kernel
theorem dX10_tellsHole_151 : decode cX10_tellsHole 151 = .ok (.iload_n 1, 1) := by decide +kernel
theorem dX10_tellsHole_152 : decode cX10_tellsHole 152 = .ok (.iaload, 1) := by decide +kernel
theorem dX10_tellsHole_153 : decode cX10_tellsHole 153 = .ok (.ireturn, 1) := by decide +kernel
theorem dX10_tellsHole_154 : decode cX10_tellsHole 154 = .ok (.aload_n 0, 1) := by decide +kernel
theorem dX10_tellsHole_155 : decode cX10_tellsHole 155 = .ok (.iload_n 1, 1) := by decide +kernel
theorem dX10_tellsHole_156 : decode cX10_tellsHole 156 = .ok (.iload_n 1, 1) := by decide +kernel
theorem dX10_tellsHole_157 : decode cX10_tellsHole 157 = .ok (.iconst 1, 1) := by decide +kernel
theorem dX10_tellsHole_158 : decode cX10_tellsHole 158 = .ok (.iadd, 1) := by decide +kernel
theorem dX10_tellsHole_159 : decode cX10_tellsHole 159 = .ok (.invokevirtual 163, 3) := by decide +kernel
theorem dX10_tellsHole_162 : decode cX10_tellsHole 162 = .ok (.ireturn, 1) := by decide +kernel
theorem dX10_tellsHole_163 : decode cX10_tellsHole 163 = .ok (.aload_n 0, 1) := by decide +kernel
theorem dX10_tellsHole_164 : decode cX10_tellsHole 164 = .ok (.iload_n 1, 1) := by decide +kernel
theorem dX10_tellsHole_165 : decode cX10_tellsHole 165 = .ok (.iconst 3, 1) := by decide +kernel
theorem dX10_tellsHole_166 : decode cX10_tellsHole 166 = .ok (.invokevirtual 71, 3) := by decide +kernel
theorem dX10_tellsHole_169 : decode cX10_tellsHole 169 = .ok (.ireturn, 1) := by decide +kernel
theorem dX10_hole_0 : decode cX10_hole 0 = .ok (.aload_n 0, 1) := by decide +kernel
theorem dX10_hole_1 : decode cX10_hole 1 = .ok (.iconst 0, 1) := by decide +kernel
theorem dX10_hole_2 : decode cX10_hole 2 = .ok (.putfield 38, 3) := by decide +kernel
theorem dX10_hole_5 : decode cX10_hole 5 = .ok (.aload_n 0, 1) := by decide +kernel
theorem dX10_hole_6 : decode cX10_hole 6 = .ok (.iload_n 1, 1) := by decide +kernel
theorem dX10_hole_7 : decode cX10_hole 7 = .ok (.invokevirtual 87, 3) := by decide +kernel
theorem dX10_hole_10 : decode cX10_hole 10 = .ok (.ifCond .ne 9, 3) := by decide +kernel
theorem dX10_hole_13 : decode cX10_hole 13 = .ok (.aload_n 0, 1) := by decide +kernel
theorem dX10_hole_14 : decode cX10_hole 14 = .ok (.iconst 1, 1) := by decide +kernel
theorem dX10_hole_15 : decode cX10_hole 15 = .ok (.invokevirtual 110, 3) := by decide +kernel
theorem dX10_hole_18 : decode cX10_hole 18 = .ok (.ireturn, 1) := by decide +kernel
theorem dX10_hole_19 : decode cX10_hole 19 = .ok (.iload_n 2, 1) := by decide +kernel
theorem dX10_hole_20 : decode cX10_hole 20 = .ok (.iconst 0, 1) := by decide +kernel
theorem dX10_hole_21 : decode cX10_hole 21 = .ok (.bipush 11, 2) := by decide +kernel
theorem dX10_hole_23 : decode cX10_hole 23 = .ok (.invokestatic 45, 3) := by decide +kernel
theorem dX10_hole_26 : decode cX10_hole 26 = .ok (.ifCond .eq 12, 3) := by decide +kernel
theorem dX10_hole_29 : decode cX10_hole 29 = .ok (.aload_n 0, 1) := by decide +kernel
theorem dX10_hole_30 : decode cX10_hole 30 = .ok (.iload_n 1, 1) := by decide +kernel
theorem dX10_hole_31 : decode cX10_hole 31 = .ok (.iload_n 2, 1) := by decide +kernel
theorem dX10_hole_32 : decode cX10_hole 32 = .ok (.invokevirtual 166, 3) := by decide +kernel
theorem dX10_hole_35 : decode cX10_hole 35 = .ok (.goto 8, 3) := by decide +kernel
theorem dX10_hole_38 : decode cX10_hole 38 = .ok (.aload_n 0, 1) := by decide +kernel
theorem dX10_hole_39 : decode cX10_hole 39 = .ok (.iconst 2, 1) := by decide +kernel
theorem dX10_hole_40 : decode cX10_hole 40 = .ok (.invokevirtual 110, 3) := by decide +kernel
theorem dX10_hole_43 : decode cX10_hole 43 = .ok (.ireturn, 1) := by decide +kernel
theorem dX10_tellsReading_0 : decode cX10_tellsReading 0 = .ok (.iload_n 2, 1) := by decide +kernel
theorem dX10_tellsReading_1 : decode cX10_tellsReading 1 = .ok (.tableswitch 51 8 10 #[27, 27, 37], 27) := by decide +kernel
theorem dX10_tellsReading_28 : decode cX10_tellsReading 28 = .ok (.aload_n 0, 1) := by decide +kernel
theorem dX10_tellsReading_29 : decode cX10_tellsReading 29 = .ok (.iload_n 1, 1) := by decide +kernel
theorem dX10_tellsReading_30 : decode cX10_tellsReading 30 = .ok (.iload_n 2, 1) := by decide +kernel
theorem dX10_tellsReading_31 : decode cX10_tellsReading 31 = .ok (.bipush 8, 2) := by decide +kernel
theorem dX10_tellsReading_33 : decode cX10_tellsReading 33 = .ok (.isub, 1) := by decide +kernel
theorem dX10_tellsReading_34 : decode cX10_tellsReading 34 = .ok (.invokevirtual 77, 3) := by decide +kernel
theorem dX10_tellsReading_37 : decode cX10_tellsReading 37 = .ok (.ireturn, 1) := by decide +kernel
theorem dX10_tellsReading_38 : decode cX10_tellsReading 38 = .ok (.aload_n 0, 1) := by decide +kernel
theorem dX10_tellsReading_39 : decode cX10_tellsReading 39 = .ok (.iload_n 1, 1) := by decide +kernel
theorem dX10_tellsReading_40 : decode cX10_tellsReading 40 = .ok (.invokevirtual 83, 3) := by decide +kernel
theorem dX10_tellsReading_43 : decode cX10_tellsReading 43 = .ok (.ifCond .eq 7, 3) := by decide +kernel
theorem dX10_tellsReading_46 : decode cX10_tellsReading 46 = .ok (.iconst 1, 1) := by decide +kernel
theorem dX10_tellsReading_47 : decode cX10_tellsReading 47 = .ok (.goto 4, 3) := by decide +kernel
theorem dX10_tellsReading_50 : decode cX10_tellsReading 50 = .ok (.iconst 0, 1) := by decide +kernel
theorem dX10_tellsReading_51 : decode cX10_tellsReading 51 = .ok (.ireturn, 1) := by decide +kernel
theorem dX10_tellsReading_52 : decode cX10_tellsReading 52 = .ok (.iload_n 2, 1) := by decide +kernel
theorem dX10_tellsReading_53 : decode cX10_tellsReading 53 = .ok (.aload_n 0, 1) := by decide +kernel
theorem dX10_tellsReading_54 : decode cX10_tellsReading 54 = .ok (.iload_n 1, 1) := by decide +kernel
theorem dX10_tellsReading_55 : decode cX10_tellsReading 55 = .ok (.iconst 0, 1) := by decide +kernel
theorem dX10_tellsReading_56 : decode cX10_tellsReading 56 = .ok (.invokevirtual 77, 3) := by decide +kernel
theorem dX10_tellsReading_59 : decode cX10_tellsReading 59 = .ok (.if_icmp .ge 14, 3) := by decide +kernel
theorem dX10_tellsReading_62 : decode cX10_tellsReading 62 = .ok (.aload_n 0, 1) := by decide +kernel
theorem dX10_tellsReading_63 : decode cX10_tellsReading 63 = .ok (.iload_n 1, 1) := by decide +kernel
theorem dX10_tellsReading_64 : decode cX10_tellsReading 64 = .ok (.iconst 2, 1) := by decide +kernel
theorem dX10_tellsReading_65 : decode cX10_tellsReading 65 = .ok (.iload_n 2, 1) := by decide +kernel
theorem dX10_tellsReading_66 : decode cX10_tellsReading 66 = .ok (.iadd, 1) := by decide +kernel
theorem dX10_tellsReading_67 : decode cX10_tellsReading 67 = .ok (.invokevirtual 77, 3) := by decide +kernel
theorem dX10_tellsReading_70 : decode cX10_tellsReading 70 = .ok (.goto 4, 3) := by decide +kernel
theorem dX10_tellsReading_73 : decode cX10_tellsReading 73 = .ok (.iconst (-1), 1) := by decide +kernel
theorem dX10_tellsReading_74 : decode cX10_tellsReading 74 = .ok (.ireturn, 1) := by decide +kernel
theorem dX10_reading_0 : decode cX10_reading 0 = .ok (.aload_n 0, 1) := by decide +kernel
theorem dX10_reading_1 : decode cX10_reading 1 = .ok (.iconst 0, 1) := by decide +kernel
theorem dX10_reading_2 : decode cX10_reading 2 = .ok (.putfield 38, 3) := by decide +kernel
theorem dX10_reading_5 : decode cX10_reading 5 = .ok (.iload_n 1, 1) := by decide +kernel
theorem dX10_reading_6 : decode cX10_reading 6 = .ok (.iconst 0, 1) := by decide +kernel
theorem dX10_reading_7 : decode cX10_reading 7 = .ok (.aload_n 0, 1) := by decide +kernel
theorem dX10_reading_8 : decode cX10_reading 8 = .ok (.getfield 7, 3) := by decide +kernel
theorem dX10_reading_11 : decode cX10_reading 11 = .ok (.bipush 7, 2) := by decide +kernel
theorem dX10_reading_13 : decode cX10_reading 13 = .ok (.iaload, 1) := by decide +kernel
theorem dX10_reading_14 : decode cX10_reading 14 = .ok (.iconst 1, 1) := by decide +kernel
theorem dX10_reading_15 : decode cX10_reading 15 = .ok (.isub, 1) := by decide +kernel
theorem dX10_reading_16 : decode cX10_reading 16 = .ok (.invokestatic 45, 3) := by decide +kernel
theorem dX10_reading_19 : decode cX10_reading 19 = .ok (.ifCond .ne 9, 3) := by decide +kernel
theorem dX10_reading_22 : decode cX10_reading 22 = .ok (.aload_n 0, 1) := by decide +kernel
theorem dX10_reading_23 : decode cX10_reading 23 = .ok (.iconst 1, 1) := by decide +kernel
theorem dX10_reading_24 : decode cX10_reading 24 = .ok (.invokevirtual 110, 3) := by decide +kernel
theorem dX10_reading_27 : decode cX10_reading 27 = .ok (.ireturn, 1) := by decide +kernel
theorem dX10_reading_28 : decode cX10_reading 28 = .ok (.iload_n 2, 1) := by decide +kernel
theorem dX10_reading_29 : decode cX10_reading 29 = .ok (.iconst 0, 1) := by decide +kernel
theorem dX10_reading_30 : decode cX10_reading 30 = .ok (.bipush 10, 2) := by decide +kernel
theorem dX10_reading_32 : decode cX10_reading 32 = .ok (.invokestatic 45, 3) := by decide +kernel
theorem dX10_reading_35 : decode cX10_reading 35 = .ok (.ifCond .eq 12, 3) := by decide +kernel
theorem dX10_reading_38 : decode cX10_reading 38 = .ok (.aload_n 0, 1) := by decide +kernel
theorem dX10_reading_39 : decode cX10_reading 39 = .ok (.iload_n 1, 1) := by decide +kernel
theorem dX10_reading_40 : decode cX10_reading 40 = .ok (.iload_n 2, 1) := by decide +kernel
theorem dX10_reading_41 : decode cX10_reading 41 = .ok (.invokevirtual 169, 3) := by decide +kernel
theorem dX10_reading_44 : decode cX10_reading 44 = .ok (.goto 8, 3) := by decide +kernel
theorem dX10_reading_47 : decode cX10_reading 47 = .ok (.aload_n 0, 1) := by decide +kernel
theorem dX10_reading_48 : decode cX10_reading 48 = .ok (.iconst 2, 1) := by decide +kernel
theorem dX10_reading_49 : decode cX10_reading 49 = .ok (.invokevirtual 110, 3) := by decide +kernel
theorem dX10_reading_52 : decode cX10_reading 52 = .ok (.ireturn, 1) := by decide +kernel
theorem dX10_tellsFlow_0 : decode cX10_tellsFlow 0 = .ok (.aload_n 0, 1) := by decide +kernel
theorem dX10_tellsFlow_1 : decode cX10_tellsFlow 1 = .ok (.invokevirtual 160, 3) := by decide +kernel
theorem dX10_tellsFlow_4 : decode cX10_tellsFlow 4 = .ok (.iload_n 1, 1) := by decide +kernel
theorem dX10_tellsFlow_5 : decode cX10_tellsFlow 5 = .ok (.tableswitch 76 0 2 #[27, 40, 55], 27) := by decide +kernel
theorem dX10_tellsFlow_32 : decode cX10_tellsFlow 32 = .ok (.aload_n 0, 1) := by decide +kernel
theorem dX10_tellsFlow_33 : decode cX10_tellsFlow 33 = .ok (.iconst 0, 1) := by decide +kernel
theorem dX10_tellsFlow_34 : decode cX10_tellsFlow 34 = .ok (.aload_n 0, 1) := by decide +kernel
theorem dX10_tellsFlow_35 : decode cX10_tellsFlow 35 = .ok (.getfield 7, 3) := by decide +kernel
theorem dX10_tellsFlow_38 : decode cX10_tellsFlow 38 = .ok (.bipush 6, 2) := by decide +kernel
theorem dX10_tellsFlow_40 : decode cX10_tellsFlow 40 = .ok (.iaload, 1) := by decide +kernel
theorem dX10_tellsFlow_41 : decode cX10_tellsFlow 41 = .ok (.invokevirtual 163, 3) := by decide +kernel
theorem dX10_tellsFlow_44 : decode cX10_tellsFlow 44 = .ok (.ireturn, 1) := by decide +kernel
theorem dX10_tellsFlow_45 : decode cX10_tellsFlow 45 = .ok (.aload_n 0, 1) := by decide +kernel
theorem dX10_tellsFlow_46 : decode cX10_tellsFlow 46 = .ok (.iconst 0, 1) := by decide +kernel
theorem dX10_tellsFlow_47 : decode cX10_tellsFlow 47 = .ok (.aload_n 0, 1) := by decide +kernel
theorem dX10_tellsFlow_48 : decode cX10_tellsFlow 48 = .ok (.getfield 7, 3) := by decide +kernel
theorem dX10_tellsFlow_51 : decode cX10_tellsFlow 51 = .ok (.bipush 6, 2) := by decide +kernel
theorem dX10_tellsFlow_53 : decode cX10_tellsFlow 53 = .ok (.iaload, 1) := by decide +kernel
theorem dX10_tellsFlow_54 : decode cX10_tellsFlow 54 = .ok (.iconst 2, 1) := by decide +kernel
theorem dX10_tellsFlow_55 : decode cX10_tellsFlow 55 = .ok (.idiv, 1) := by decide +kernel
theorem dX10_tellsFlow_56 : decode cX10_tellsFlow 56 = .ok (.invokevirtual 163, 3) := by decide +kernel
theorem dX10_tellsFlow_59 : decode cX10_tellsFlow 59 = .ok (.ireturn, 1) := by decide +kernel
theorem dX10_tellsFlow_60 : decode cX10_tellsFlow 60 = .ok (.aload_n 0, 1) := by decide +kernel
theorem dX10_tellsFlow_61 : decode cX10_tellsFlow 61 = .ok (.aload_n 0, 1) := by decide +kernel
theorem dX10_tellsFlow_62 : decode cX10_tellsFlow 62 = .ok (.getfield 7, 3) := by decide +kernel
theorem dX10_tellsFlow_65 : decode cX10_tellsFlow 65 = .ok (.bipush 6, 2) := by decide +kernel
theorem dX10_tellsFlow_67 : decode cX10_tellsFlow 67 = .ok (.iaload, 1) := by decide +kernel
theorem dX10_tellsFlow_68 : decode cX10_tellsFlow 68 = .ok (.iconst 2, 1) := by decide +kernel
theorem dX10_tellsFlow_69 : decode cX10_tellsFlow 69 = .ok (.idiv, 1) := by decide +kernel
theorem dX10_tellsFlow_70 : decode cX10_tellsFlow 70 = .ok (.aload_n 0, 1) := by decide +kernel
theorem dX10_tellsFlow_71 : decode cX10_tellsFlow 71 = .ok (.getfield 7, 3) := by decide +kernel
theorem dX10_tellsFlow_74 : decode cX10_tellsFlow 74 = .ok (.bipush 6, 2) := by decide +kernel
theorem dX10_tellsFlow_76 : decode cX10_tellsFlow 76 = .ok (.iaload, 1) := by decide +kernel
theorem dX10_tellsFlow_77 : decode cX10_tellsFlow 77 = .ok (.invokevirtual 163, 3) := by decide +kernel
theorem dX10_tellsFlow_80 : decode cX10_tellsFlow 80 = .ok (.ireturn, 1) := by decide +kernel
theorem dX10_tellsFlow_81 : decode cX10_tellsFlow 81 = .ok (.aload_n 0, 1) := by decide +kernel
theorem dX10_tellsFlow_82 : decode cX10_tellsFlow 82 = .ok (.aload_n 0, 1) := by decide +kernel
theorem dX10_tellsFlow_83 : decode cX10_tellsFlow 83 = .ok (.getfield 7, 3) := by decide +kernel
theorem dX10_tellsFlow_86 : decode cX10_tellsFlow 86 = .ok (.bipush 6, 2) := by decide +kernel
theorem dX10_tellsFlow_88 : decode cX10_tellsFlow 88 = .ok (.iaload, 1) := by decide +kernel
theorem dX10_tellsFlow_89 : decode cX10_tellsFlow 89 = .ok (.invokevirtual 172, 3) := by decide +kernel
theorem dX10_tellsFlow_92 : decode cX10_tellsFlow 92 = .ok (.ireturn, 1) := by decide +kernel
theorem dX10_flow_0 : decode cX10_flow 0 = .ok (.aload_n 0, 1) := by decide +kernel
theorem dX10_flow_1 : decode cX10_flow 1 = .ok (.iconst 0, 1) := by decide +kernel
theorem dX10_flow_2 : decode cX10_flow 2 = .ok (.putfield 38, 3) := by decide +kernel
theorem dX10_flow_5 : decode cX10_flow 5 = .ok (.iload_n 1, 1) := by decide +kernel
theorem dX10_flow_6 : decode cX10_flow 6 = .ok (.iconst 0, 1) := by decide +kernel
theorem dX10_flow_7 : decode cX10_flow 7 = .ok (.iconst 3, 1) := by decide +kernel
theorem dX10_flow_8 : decode cX10_flow 8 = .ok (.invokestatic 45, 3) := by decide +kernel
theorem dX10_flow_11 : decode cX10_flow 11 = .ok (.ifCond .eq 11, 3) := by decide +kernel
theorem dX10_flow_14 : decode cX10_flow 14 = .ok (.aload_n 0, 1) := by decide +kernel
theorem dX10_flow_15 : decode cX10_flow 15 = .ok (.iload_n 1, 1) := by decide +kernel
theorem dX10_flow_16 : decode cX10_flow 16 = .ok (.invokevirtual 175, 3) := by decide +kernel
theorem dX10_flow_19 : decode cX10_flow 19 = .ok (.goto 8, 3) := by decide +kernel
theorem dX10_flow_22 : decode cX10_flow 22 = .ok (.aload_n 0, 1) := by decide +kernel
theorem dX10_flow_23 : decode cX10_flow 23 = .ok (.iconst 1, 1) := by decide +kernel
theorem dX10_flow_24 : decode cX10_flow 24 = .ok (.invokevirtual 110, 3) := by decide +kernel
theorem dX10_flow_27 : decode cX10_flow 27 = .ok (.ireturn, 1) := by decide +kernel
theorem dX10_holesFor_0 : decode cX10_holesFor 0 = .ok (.aload_n 0, 1) := by decide +kernel
theorem dX10_holesFor_1 : decode cX10_holesFor 1 = .ok (.invokevirtual 160, 3) := by decide +kernel
theorem dX10_holesFor_4 : decode cX10_holesFor 4 = .ok (.iconst 0, 1) := by decide +kernel
theorem dX10_holesFor_5 : decode cX10_holesFor 5 = .ok (.istore_n 2, 1) := by decide +kernel
theorem dX10_holesFor_6 : decode cX10_holesFor 6 = .ok (.iconst 0, 1) := by decide +kernel
theorem dX10_holesFor_7 : decode cX10_holesFor 7 = .ok (.istore_n 3, 1) := by decide +kernel
theorem dX10_holesFor_8 : decode cX10_holesFor 8 = .ok (.iload_n 3, 1) := by decide +kernel
theorem dX10_holesFor_9 : decode cX10_holesFor 9 = .ok (.aload_n 0, 1) := by decide +kernel
theorem dX10_holesFor_10 : decode cX10_holesFor 10 = .ok (.getfield 7, 3) := by decide +kernel
theorem dX10_holesFor_13 : decode cX10_holesFor 13 = .ok (.bipush 6, 2) := by decide +kernel
theorem dX10_holesFor_15 : decode cX10_holesFor 15 = .ok (.iaload, 1) := by decide +kernel
theorem dX10_holesFor_16 : decode cX10_holesFor 16 = .ok (.if_icmp .ge 27, 3) := by decide +kernel
theorem dX10_holesFor_19 : decode cX10_holesFor 19 = .ok (.iload_n 2, 1) := by decide +kernel
theorem dX10_holesFor_20 : decode cX10_holesFor 20 = .ok (.aload_n 0, 1) := by decide +kernel
theorem dX10_holesFor_21 : decode cX10_holesFor 21 = .ok (.getfield 29, 3) := by decide +kernel
theorem dX10_holesFor_24 : decode cX10_holesFor 24 = .ok (.iload_n 3, 1) := by decide +kernel
theorem dX10_holesFor_25 : decode cX10_holesFor 25 = .ok (.iaload, 1) := by decide +kernel
theorem dX10_holesFor_26 : decode cX10_holesFor 26 = .ok (.iload_n 1, 1) := by decide +kernel
theorem dX10_holesFor_27 : decode cX10_holesFor 27 = .ok (.if_icmp .ne 7, 3) := by decide +kernel
theorem dX10_holesFor_30 : decode cX10_holesFor 30 = .ok (.iconst 1, 1) := by decide +kernel
theorem dX10_holesFor_31 : decode cX10_holesFor 31 = .ok (.goto 4, 3) := by decide +kernel
theorem dX10_holesFor_34 : decode cX10_holesFor 34 = .ok (.iconst 0, 1) := by decide +kernel
theorem dX10_holesFor_35 : decode cX10_holesFor 35 = .ok (.iadd, 1) := by decide +kernel
theorem dX10_holesFor_36 : decode cX10_holesFor 36 = .ok (.istore_n 2, 1) := by decide +kernel
theorem dX10_holesFor_37 : decode cX10_holesFor 37 = .ok (.iinc 3 1, 3) := by decide +kernel
theorem dX10_holesFor_40 : decode cX10_holesFor 40 = .ok (.goto (-32), 3) := by decide +kernel
theorem dX10_holesFor_43 : decode cX10_holesFor 43 = .ok (.iload_n 2, 1) := by decide +kernel
theorem dX10_holesFor_44 : decode cX10_holesFor 44 = .ok (.ireturn, 1) := by decide +kernel
theorem dX10_tellsCount_0 : decode cX10_tellsCount 0 = .ok (.iload_n 1, 1) := by decide +kernel
theorem dX10_tellsCount_1 : decode cX10_tellsCount 1 = .ok (.tableswitch 157 0 13 #[71, 79, 86, 94, 157, 157, 157, 157, 157, 103, 126, 136, 144, 152], 71) := by decide +kernel
theorem dX10_tellsCount_72 : decode cX10_tellsCount 72 = .ok (.aload_n 0, 1) := by decide +kernel
theorem dX10_tellsCount_73 : decode cX10_tellsCount 73 = .ok (.getfield 7, 3) := by decide +kernel
theorem dX10_tellsCount_76 : decode cX10_tellsCount 76 = .ok (.bipush 6, 2) := by decide +kernel
theorem dX10_tellsCount_78 : decode cX10_tellsCount 78 = .ok (.iaload, 1) := by decide +kernel
theorem dX10_tellsCount_79 : decode cX10_tellsCount 79 = .ok (.ireturn, 1) := by decide +kernel
theorem dX10_tellsCount_80 : decode cX10_tellsCount 80 = .ok (.aload_n 0, 1) := by decide +kernel
theorem dX10_tellsCount_81 : decode cX10_tellsCount 81 = .ok (.getfield 7, 3) := by decide +kernel
theorem dX10_tellsCount_84 : decode cX10_tellsCount 84 = .ok (.iconst 5, 1) := by decide +kernel
theorem dX10_tellsCount_85 : decode cX10_tellsCount 85 = .ok (.iaload, 1) := by decide +kernel
theorem dX10_tellsCount_86 : decode cX10_tellsCount 86 = .ok (.ireturn, 1) := by decide +kernel
theorem dX10_tellsCount_87 : decode cX10_tellsCount 87 = .ok (.aload_n 0, 1) := by decide +kernel
theorem dX10_tellsCount_88 : decode cX10_tellsCount 88 = .ok (.getfield 7, 3) := by decide +kernel
theorem dX10_tellsCount_91 : decode cX10_tellsCount 91 = .ok (.bipush 7, 2) := by decide +kernel
theorem dX10_tellsCount_93 : decode cX10_tellsCount 93 = .ok (.iaload, 1) := by decide +kernel
theorem dX10_tellsCount_94 : decode cX10_tellsCount 94 = .ok (.ireturn, 1) := by decide +kernel
theorem dX10_tellsCount_95 : decode cX10_tellsCount 95 = .ok (.aload_n 0, 1) := by decide +kernel
theorem dX10_tellsCount_96 : decode cX10_tellsCount 96 = .ok (.invokevirtual 103, 3) := by decide +kernel
theorem dX10_tellsCount_99 : decode cX10_tellsCount 99 = .ok (.aload_n 0, 1) := by decide +kernel
theorem dX10_tellsCount_100 : decode cX10_tellsCount 100 = .ok (.getfield 80, 3) := by decide +kernel
theorem dX10_tellsCount_103 : decode cX10_tellsCount 103 = .ok (.ireturn, 1) := by decide +kernel
theorem dX10_tellsCount_104 : decode cX10_tellsCount 104 = .ok (.iconst 5, 1) := by decide +kernel
theorem dX10_tellsCount_105 : decode cX10_tellsCount 105 = .ok (.aload_n 0, 1) := by decide +kernel
theorem dX10_tellsCount_106 : decode cX10_tellsCount 106 = .ok (.getfield 7, 3) := by decide +kernel
theorem dX10_tellsCount_109 : decode cX10_tellsCount 109 = .ok (.bipush 8, 2) := by decide +kernel
theorem dX10_tellsCount_111 : decode cX10_tellsCount 111 = .ok (.iaload, 1) := by decide +kernel
theorem dX10_tellsCount_112 : decode cX10_tellsCount 112 = .ok (.imul, 1) := by decide +kernel
theorem dX10_tellsCount_113 : decode cX10_tellsCount 113 = .ok (.aload_n 0, 1) := by decide +kernel
theorem dX10_tellsCount_114 : decode cX10_tellsCount 114 = .ok (.getfield 7, 3) := by decide +kernel
theorem dX10_tellsCount_117 : decode cX10_tellsCount 117 = .ok (.bipush 9, 2) := by decide +kernel
theorem dX10_tellsCount_119 : decode cX10_tellsCount 119 = .ok (.iaload, 1) := by decide +kernel
theorem dX10_tellsCount_120 : decode cX10_tellsCount 120 = .ok (.iadd, 1) := by decide +kernel
theorem dX10_tellsCount_121 : decode cX10_tellsCount 121 = .ok (.aload_n 0, 1) := by decide +kernel
theorem dX10_tellsCount_122 : decode cX10_tellsCount 122 = .ok (.invokevirtual 116, 3) := by decide +kernel
theorem dX10_tellsCount_125 : decode cX10_tellsCount 125 = .ok (.iadd, 1) := by decide +kernel
theorem dX10_tellsCount_126 : decode cX10_tellsCount 126 = .ok (.ireturn, 1) := by decide +kernel
theorem dX10_tellsCount_127 : decode cX10_tellsCount 127 = .ok (.iconst 5, 1) := by decide +kernel
theorem dX10_tellsCount_128 : decode cX10_tellsCount 128 = .ok (.aload_n 0, 1) := by decide +kernel
theorem dX10_tellsCount_129 : decode cX10_tellsCount 129 = .ok (.getfield 7, 3) := by decide +kernel
theorem dX10_tellsCount_132 : decode cX10_tellsCount 132 = .ok (.bipush 8, 2) := by decide +kernel
theorem dX10_tellsCount_134 : decode cX10_tellsCount 134 = .ok (.iaload, 1) := by decide +kernel
theorem dX10_tellsCount_135 : decode cX10_tellsCount 135 = .ok (.imul, 1) := by decide +kernel
theorem dX10_tellsCount_136 : decode cX10_tellsCount 136 = .ok (.ireturn, 1) := by decide +kernel
theorem dX10_tellsCount_137 : decode cX10_tellsCount 137 = .ok (.aload_n 0, 1) := by decide +kernel
theorem dX10_tellsCount_138 : decode cX10_tellsCount 138 = .ok (.getfield 7, 3) := by decide +kernel
theorem dX10_tellsCount_141 : decode cX10_tellsCount 141 = .ok (.bipush 9, 2) := by decide +kernel
theorem dX10_tellsCount_143 : decode cX10_tellsCount 143 = .ok (.iaload, 1) := by decide +kernel
theorem dX10_tellsCount_144 : decode cX10_tellsCount 144 = .ok (.ireturn, 1) := by decide +kernel
theorem dX10_tellsCount_145 : decode cX10_tellsCount 145 = .ok (.aload_n 0, 1) := by decide +kernel
theorem dX10_tellsCount_146 : decode cX10_tellsCount 146 = .ok (.getfield 7, 3) := by decide +kernel
theorem dX10_tellsCount_149 : decode cX10_tellsCount 149 = .ok (.bipush 8, 2) := by decide +kernel
theorem dX10_tellsCount_151 : decode cX10_tellsCount 151 = .ok (.iaload, 1) := by decide +kernel
theorem dX10_tellsCount_152 : decode cX10_tellsCount 152 = .ok (.ireturn, 1) := by decide +kernel
theorem dX10_tellsCount_153 : decode cX10_tellsCount 153 = .ok (.aload_n 0, 1) := by decide +kernel
theorem dX10_tellsCount_154 : decode cX10_tellsCount 154 = .ok (.getfield 53, 3) := by decide +kernel
theorem dX10_tellsCount_157 : decode cX10_tellsCount 157 = .ok (.ireturn, 1) := by decide +kernel
theorem dX10_tellsCount_158 : decode cX10_tellsCount 158 = .ok (.aload_n 0, 1) := by decide +kernel
theorem dX10_tellsCount_159 : decode cX10_tellsCount 159 = .ok (.iload_n 1, 1) := by decide +kernel
theorem dX10_tellsCount_160 : decode cX10_tellsCount 160 = .ok (.iconst 4, 1) := by decide +kernel
theorem dX10_tellsCount_161 : decode cX10_tellsCount 161 = .ok (.isub, 1) := by decide +kernel
theorem dX10_tellsCount_162 : decode cX10_tellsCount 162 = .ok (.invokevirtual 178, 3) := by decide +kernel
theorem dX10_tellsCount_165 : decode cX10_tellsCount 165 = .ok (.ireturn, 1) := by decide +kernel
theorem dX10_count_0 : decode cX10_count 0 = .ok (.aload_n 0, 1) := by decide +kernel
theorem dX10_count_1 : decode cX10_count 1 = .ok (.iconst 0, 1) := by decide +kernel
theorem dX10_count_2 : decode cX10_count 2 = .ok (.putfield 38, 3) := by decide +kernel
theorem dX10_count_5 : decode cX10_count 5 = .ok (.iload_n 1, 1) := by decide +kernel
theorem dX10_count_6 : decode cX10_count 6 = .ok (.iconst 0, 1) := by decide +kernel
theorem dX10_count_7 : decode cX10_count 7 = .ok (.bipush 13, 2) := by decide +kernel
theorem dX10_count_9 : decode cX10_count 9 = .ok (.invokestatic 45, 3) := by decide +kernel
theorem dX10_count_12 : decode cX10_count 12 = .ok (.ifCond .eq 11, 3) := by decide +kernel
theorem dX10_count_15 : decode cX10_count 15 = .ok (.aload_n 0, 1) := by decide +kernel
theorem dX10_count_16 : decode cX10_count 16 = .ok (.iload_n 1, 1) := by decide +kernel
theorem dX10_count_17 : decode cX10_count 17 = .ok (.invokevirtual 181, 3) := by decide +kernel
theorem dX10_count_20 : decode cX10_count 20 = .ok (.goto 8, 3) := by decide +kernel
theorem dX10_count_23 : decode cX10_count 23 = .ok (.aload_n 0, 1) := by decide +kernel
theorem dX10_count_24 : decode cX10_count 24 = .ok (.iconst 1, 1) := by decide +kernel
theorem dX10_count_25 : decode cX10_count 25 = .ok (.invokevirtual 110, 3) := by decide +kernel
theorem dX10_count_28 : decode cX10_count 28 = .ok (.ireturn, 1) := by decide +kernel
theorem dX10_setting_0 : decode cX10_setting 0 = .ok (.aload_n 0, 1) := by decide +kernel
theorem dX10_setting_1 : decode cX10_setting 1 = .ok (.iconst 0, 1) := by decide +kernel
theorem dX10_setting_2 : decode cX10_setting 2 = .ok (.putfield 38, 3) := by decide +kernel
theorem dX10_setting_5 : decode cX10_setting 5 = .ok (.iload_n 1, 1) := by decide +kernel
theorem dX10_setting_6 : decode cX10_setting 6 = .ok (.iconst 0, 1) := by decide +kernel
theorem dX10_setting_7 : decode cX10_setting 7 = .ok (.iconst 4, 1) := by decide +kernel
theorem dX10_setting_8 : decode cX10_setting 8 = .ok (.invokestatic 45, 3) := by decide +kernel
theorem dX10_setting_11 : decode cX10_setting 11 = .ok (.ifCond .eq 12, 3) := by decide +kernel
theorem dX10_setting_14 : decode cX10_setting 14 = .ok (.aload_n 0, 1) := by decide +kernel
theorem dX10_setting_15 : decode cX10_setting 15 = .ok (.getfield 7, 3) := by decide +kernel
theorem dX10_setting_18 : decode cX10_setting 18 = .ok (.iload_n 1, 1) := by decide +kernel
theorem dX10_setting_19 : decode cX10_setting 19 = .ok (.iaload, 1) := by decide +kernel
theorem dX10_setting_20 : decode cX10_setting 20 = .ok (.goto 8, 3) := by decide +kernel
theorem dX10_setting_23 : decode cX10_setting 23 = .ok (.aload_n 0, 1) := by decide +kernel
theorem dX10_setting_24 : decode cX10_setting 24 = .ok (.iconst 1, 1) := by decide +kernel
theorem dX10_setting_25 : decode cX10_setting 25 = .ok (.invokevirtual 110, 3) := by decide +kernel
theorem dX10_setting_28 : decode cX10_setting 28 = .ok (.ireturn, 1) := by decide +kernel
theorem dX10_wholeIfRight_0 : decode cX10_wholeIfRight 0 = .ok (.aload_n 0, 1) := by decide +kernel
theorem dX10_wholeIfRight_1 : decode cX10_wholeIfRight 1 = .ok (.invokevirtual 103, 3) := by decide +kernel
theorem dX10_wholeIfRight_4 : decode cX10_wholeIfRight 4 = .ok (.aload_n 0, 1) := by decide +kernel
theorem dX10_wholeIfRight_5 : decode cX10_wholeIfRight 5 = .ok (.getfield 80, 3) := by decide +kernel
theorem dX10_wholeIfRight_8 : decode cX10_wholeIfRight 8 = .ok (.ifCond .ne 5, 3) := by decide +kernel
theorem dX10_wholeIfRight_11 : decode cX10_wholeIfRight 11 = .ok (.iconst (-1), 1) := by decide +kernel
theorem dX10_wholeIfRight_12 : decode cX10_wholeIfRight 12 = .ok (.ireturn, 1) := by decide +kernel
theorem dX10_wholeIfRight_13 : decode cX10_wholeIfRight 13 = .ok (.aload_n 0, 1) := by decide +kernel
theorem dX10_wholeIfRight_14 : decode cX10_wholeIfRight 14 = .ok (.getfield 26, 3) := by decide +kernel
theorem dX10_wholeIfRight_17 : decode cX10_wholeIfRight 17 = .ok (.iload_n 1, 1) := by decide +kernel
theorem dX10_wholeIfRight_18 : decode cX10_wholeIfRight 18 = .ok (.aload_n 0, 1) := by decide +kernel
theorem dX10_wholeIfRight_19 : decode cX10_wholeIfRight 19 = .ok (.iload_n 1, 1) := by decide +kernel
theorem dX10_wholeIfRight_20 : decode cX10_wholeIfRight 20 = .ok (.invokevirtual 68, 3) := by decide +kernel
theorem dX10_wholeIfRight_23 : decode cX10_wholeIfRight 23 = .ok (.iastore, 1) := by decide +kernel
theorem dX10_wholeIfRight_24 : decode cX10_wholeIfRight 24 = .ok (.aload_n 0, 1) := by decide +kernel
theorem dX10_wholeIfRight_25 : decode cX10_wholeIfRight 25 = .ok (.iload_n 1, 1) := by decide +kernel
theorem dX10_wholeIfRight_26 : decode cX10_wholeIfRight 26 = .ok (.invokevirtual 106, 3) := by decide +kernel
theorem dX10_wholeIfRight_29 : decode cX10_wholeIfRight 29 = .ok (.aload_n 0, 1) := by decide +kernel
theorem dX10_wholeIfRight_30 : decode cX10_wholeIfRight 30 = .ok (.iconst 0, 1) := by decide +kernel
theorem dX10_wholeIfRight_31 : decode cX10_wholeIfRight 31 = .ok (.aload_n 0, 1) := by decide +kernel
theorem dX10_wholeIfRight_32 : decode cX10_wholeIfRight 32 = .ok (.getfield 7, 3) := by decide +kernel
theorem dX10_wholeIfRight_35 : decode cX10_wholeIfRight 35 = .ok (.bipush 6, 2) := by decide +kernel
theorem dX10_wholeIfRight_37 : decode cX10_wholeIfRight 37 = .ok (.iaload, 1) := by decide +kernel
theorem dX10_wholeIfRight_38 : decode cX10_wholeIfRight 38 = .ok (.invokevirtual 163, 3) := by decide +kernel
theorem dX10_wholeIfRight_41 : decode cX10_wholeIfRight 41 = .ok (.ireturn, 1) := by decide +kernel
theorem dX10_ifRight_0 : decode cX10_ifRight 0 = .ok (.aload_n 0, 1) := by decide +kernel
theorem dX10_ifRight_1 : decode cX10_ifRight 1 = .ok (.iconst 0, 1) := by decide +kernel
theorem dX10_ifRight_2 : decode cX10_ifRight 2 = .ok (.putfield 38, 3) := by decide +kernel
theorem dX10_ifRight_5 : decode cX10_ifRight 5 = .ok (.aload_n 0, 1) := by decide +kernel
theorem dX10_ifRight_6 : decode cX10_ifRight 6 = .ok (.iload_n 1, 1) := by decide +kernel
theorem dX10_ifRight_7 : decode cX10_ifRight 7 = .ok (.invokevirtual 87, 3) := by decide +kernel
theorem dX10_ifRight_10 : decode cX10_ifRight 10 = .ok (.ifCond .eq 11, 3) := by decide +kernel
theorem dX10_ifRight_13 : decode cX10_ifRight 13 = .ok (.aload_n 0, 1) := by decide +kernel
theorem dX10_ifRight_14 : decode cX10_ifRight 14 = .ok (.iload_n 1, 1) := by decide +kernel
theorem dX10_ifRight_15 : decode cX10_ifRight 15 = .ok (.invokevirtual 184, 3) := by decide +kernel
theorem dX10_ifRight_18 : decode cX10_ifRight 18 = .ok (.goto 8, 3) := by decide +kernel
theorem dX10_ifRight_21 : decode cX10_ifRight 21 = .ok (.aload_n 0, 1) := by decide +kernel
theorem dX10_ifRight_22 : decode cX10_ifRight 22 = .ok (.iconst 1, 1) := by decide +kernel
theorem dX10_ifRight_23 : decode cX10_ifRight 23 = .ok (.invokevirtual 110, 3) := by decide +kernel
theorem dX10_ifRight_26 : decode cX10_ifRight 26 = .ok (.ireturn, 1) := by decide +kernel
theorem dX10_worstOne_0 : decode cX10_worstOne 0 = .ok (.aload_n 0, 1) := by decide +kernel
theorem dX10_worstOne_1 : decode cX10_worstOne 1 = .ok (.iconst 0, 1) := by decide +kernel
theorem dX10_worstOne_2 : decode cX10_worstOne 2 = .ok (.invokevirtual 175, 3) := by decide +kernel
theorem dX10_worstOne_5 : decode cX10_worstOne 5 = .ok (.istore_n 1, 1) := by decide +kernel
theorem dX10_worstOne_6 : decode cX10_worstOne 6 = .ok (.iconst (-1), 1) := by decide +kernel
theorem dX10_worstOne_7 : decode cX10_worstOne 7 = .ok (.istore_n 2, 1) := by decide +kernel
theorem dX10_worstOne_8 : decode cX10_worstOne 8 = .ok (.iconst (-1), 1) := by decide +kernel
theorem dX10_worstOne_9 : decode cX10_worstOne 9 = .ok (.istore_n 3, 1) := by decide +kernel
theorem dX10_worstOne_10 : decode cX10_worstOne 10 = .ok (.iconst 0, 1) := by decide +kernel
theorem dX10_worstOne_11 : decode cX10_worstOne 11 = .ok (.istore 4, 2) := by decide +kernel
theorem dX10_worstOne_13 : decode cX10_worstOne 13 = .ok (.iload 4, 2) := by decide +kernel
theorem dX10_worstOne_15 : decode cX10_worstOne 15 = .ok (.aload_n 0, 1) := by decide +kernel
theorem dX10_worstOne_16 : decode cX10_worstOne 16 = .ok (.getfield 7, 3) := by decide +kernel
theorem dX10_worstOne_19 : decode cX10_worstOne 19 = .ok (.bipush 6, 2) := by decide +kernel
theorem dX10_worstOne_21 : decode cX10_worstOne 21 = .ok (.iaload, 1) := by decide +kernel
theorem dX10_worstOne_22 : decode cX10_worstOne 22 = .ok (.if_icmp .ge 84, 3) := by decide +kernel
theorem dX10_worstOne_25 : decode cX10_worstOne 25 = .ok (.iload_n 1, 1) := by decide +kernel
theorem dX10_worstOne_26 : decode cX10_worstOne 26 = .ok (.iconst (-1), 1) := by decide +kernel
theorem dX10_worstOne_27 : decode cX10_worstOne 27 = .ok (.if_icmp .eq 79, 3) := by decide +kernel
theorem dX10_worstOne_30 : decode cX10_worstOne 30 = .ok (.aload_n 0, 1) := by decide +kernel
theorem dX10_worstOne_31 : decode cX10_worstOne 31 = .ok (.iload 4, 2) := by decide +kernel
theorem dX10_worstOne_33 : decode cX10_worstOne 33 = .ok (.invokevirtual 184, 3) := by decide +kernel
theorem dX10_worstOne_36 : decode cX10_worstOne 36 = .ok (.istore 5, 2) := by decide +kernel
theorem dX10_worstOne_38 : decode cX10_worstOne 38 = .ok (.iload 5, 2) := by decide +kernel
theorem dX10_worstOne_40 : decode cX10_worstOne 40 = .ok (.iload_n 1, 1) := by decide +kernel
theorem dX10_worstOne_41 : decode cX10_worstOne 41 = .ok (.if_icmp .le 10, 3) := by decide +kernel
theorem dX10_worstOne_44 : decode cX10_worstOne 44 = .ok (.iload 5, 2) := by decide +kernel
theorem dX10_worstOne_46 : decode cX10_worstOne 46 = .ok (.iload_n 1, 1) := by decide +kernel
theorem dX10_worstOne_47 : decode cX10_worstOne 47 = .ok (.isub, 1) := by decide +kernel
theorem dX10_worstOne_48 : decode cX10_worstOne 48 = .ok (.goto 7, 3) := by decide +kernel
theorem dX10_worstOne_51 : decode cX10_worstOne 51 = .ok (.iload_n 1, 1) := by decide +kernel
theorem dX10_worstOne_52 : decode cX10_worstOne 52 = .ok (.iload 5, 2) := by decide +kernel
theorem dX10_worstOne_54 : decode cX10_worstOne 54 = .ok (.isub, 1) := by decide +kernel
theorem dX10_worstOne_55 : decode cX10_worstOne 55 = .ok (.istore 6, 2) := by decide +kernel
theorem dX10_worstOne_57 : decode cX10_worstOne 57 = .ok (.iload 5, 2) := by decide +kernel
theorem dX10_worstOne_59 : decode cX10_worstOne 59 = .ok (.iconst (-1), 1) := by decide +kernel
theorem dX10_worstOne_60 : decode cX10_worstOne 60 = .ok (.if_icmp .eq 13, 3) := by decide +kernel
theorem dX10_worstOne_63 : decode cX10_worstOne 63 = .ok (.iload 6, 2) := by decide +kernel
theorem dX10_worstOne_65 : decode cX10_worstOne 65 = .ok (.iload_n 3, 1) := by decide +kernel
theorem dX10_worstOne_66 : decode cX10_worstOne 66 = .ok (.if_icmp .le 7, 3) := by decide +kernel
theorem dX10_worstOne_69 : decode cX10_worstOne 69 = .ok (.iconst 1, 1) := by decide +kernel
theorem dX10_worstOne_70 : decode cX10_worstOne 70 = .ok (.goto 4, 3) := by decide +kernel
theorem dX10_worstOne_73 : decode cX10_worstOne 73 = .ok (.iconst 0, 1) := by decide +kernel
theorem dX10_worstOne_74 : decode cX10_worstOne 74 = .ok (.istore 7, 2) := by decide +kernel
theorem dX10_worstOne_76 : decode cX10_worstOne 76 = .ok (.iload 7, 2) := by decide +kernel
theorem dX10_worstOne_78 : decode cX10_worstOne 78 = .ok (.ifCond .eq 8, 3) := by decide +kernel
theorem dX10_worstOne_81 : decode cX10_worstOne 81 = .ok (.iload 4, 2) := by decide +kernel
theorem dX10_worstOne_83 : decode cX10_worstOne 83 = .ok (.goto 4, 3) := by decide +kernel
theorem dX10_worstOne_86 : decode cX10_worstOne 86 = .ok (.iload_n 2, 1) := by decide +kernel
theorem dX10_worstOne_87 : decode cX10_worstOne 87 = .ok (.istore_n 2, 1) := by decide +kernel
theorem dX10_worstOne_88 : decode cX10_worstOne 88 = .ok (.iload 7, 2) := by decide +kernel
theorem dX10_worstOne_90 : decode cX10_worstOne 90 = .ok (.ifCond .eq 8, 3) := by decide +kernel
theorem dX10_worstOne_93 : decode cX10_worstOne 93 = .ok (.iload 6, 2) := by decide +kernel
theorem dX10_worstOne_95 : decode cX10_worstOne 95 = .ok (.goto 4, 3) := by decide +kernel
theorem dX10_worstOne_98 : decode cX10_worstOne 98 = .ok (.iload_n 3, 1) := by decide +kernel
theorem dX10_worstOne_99 : decode cX10_worstOne 99 = .ok (.istore_n 3, 1) := by decide +kernel
theorem dX10_worstOne_100 : decode cX10_worstOne 100 = .ok (.iinc 4 1, 3) := by decide +kernel
theorem dX10_worstOne_103 : decode cX10_worstOne 103 = .ok (.goto (-90), 3) := by decide +kernel
theorem dX10_worstOne_106 : decode cX10_worstOne 106 = .ok (.iload_n 2, 1) := by decide +kernel
theorem dX10_worstOne_107 : decode cX10_worstOne 107 = .ok (.ireturn, 1) := by decide +kernel
theorem dX10_worst_0 : decode cX10_worst 0 = .ok (.aload_n 0, 1) := by decide +kernel
theorem dX10_worst_1 : decode cX10_worst 1 = .ok (.iconst 0, 1) := by decide +kernel
theorem dX10_worst_2 : decode cX10_worst 2 = .ok (.putfield 38, 3) := by decide +kernel
theorem dX10_worst_5 : decode cX10_worst 5 = .ok (.aload_n 0, 1) := by decide +kernel
theorem dX10_worst_6 : decode cX10_worst 6 = .ok (.invokevirtual 187, 3) := by decide +kernel
theorem dX10_worst_9 : decode cX10_worst 9 = .ok (.ireturn, 1) := by decide +kernel
theorem dX10_ifRake_0 : decode cX10_ifRake 0 = .ok (.aload_n 0, 1) := by decide +kernel
theorem dX10_ifRake_1 : decode cX10_ifRake 1 = .ok (.iconst 0, 1) := by decide +kernel
theorem dX10_ifRake_2 : decode cX10_ifRake 2 = .ok (.putfield 38, 3) := by decide +kernel
theorem dX10_ifRake_5 : decode cX10_ifRake 5 = .ok (.iload_n 1, 1) := by decide +kernel
theorem dX10_ifRake_6 : decode cX10_ifRake 6 = .ok (.iconst 2, 1) := by decide +kernel
theorem dX10_ifRake_7 : decode cX10_ifRake 7 = .ok (.bipush 8, 2) := by decide +kernel
theorem dX10_ifRake_9 : decode cX10_ifRake 9 = .ok (.invokestatic 45, 3) := by decide +kernel
theorem dX10_ifRake_12 : decode cX10_ifRake 12 = .ok (.ifCond .eq 11, 3) := by decide +kernel
theorem dX10_ifRake_15 : decode cX10_ifRake 15 = .ok (.aload_n 0, 1) := by decide +kernel
theorem dX10_ifRake_16 : decode cX10_ifRake 16 = .ok (.iload_n 1, 1) := by decide +kernel
theorem dX10_ifRake_17 : decode cX10_ifRake 17 = .ok (.invokevirtual 172, 3) := by decide +kernel
theorem dX10_ifRake_20 : decode cX10_ifRake 20 = .ok (.goto 8, 3) := by decide +kernel
theorem dX10_ifRake_23 : decode cX10_ifRake 23 = .ok (.aload_n 0, 1) := by decide +kernel
theorem dX10_ifRake_24 : decode cX10_ifRake 24 = .ok (.iconst 1, 1) := by decide +kernel
theorem dX10_ifRake_25 : decode cX10_ifRake 25 = .ok (.invokevirtual 110, 3) := by decide +kernel
theorem dX10_ifRake_28 : decode cX10_ifRake 28 = .ok (.ireturn, 1) := by decide +kernel
theorem dX10_fine_0 : decode cX10_fine 0 = .ok (.iconst 2, 1) := by decide +kernel
theorem dX10_fine_1 : decode cX10_fine 1 = .ok (.istore_n 2, 1) := by decide +kernel
theorem dX10_fine_2 : decode cX10_fine 2 = .ok (.aload_n 0, 1) := by decide +kernel
theorem dX10_fine_3 : decode cX10_fine 3 = .ok (.iload_n 2, 1) := by decide +kernel
theorem dX10_fine_4 : decode cX10_fine 4 = .ok (.invokevirtual 172, 3) := by decide +kernel
theorem dX10_fine_7 : decode cX10_fine 7 = .ok (.aload_n 0, 1) := by decide +kernel
theorem dX10_fine_8 : decode cX10_fine 8 = .ok (.bipush 8, 2) := by decide +kernel
theorem dX10_fine_10 : decode cX10_fine 10 = .ok (.invokevirtual 172, 3) := by decide +kernel
theorem dX10_fine_13 : decode cX10_fine 13 = .ok (.isub, 1) := by decide +kernel
theorem dX10_fine_14 : decode cX10_fine 14 = .ok (.istore_n 3, 1) := by decide +kernel
theorem dX10_fine_15 : decode cX10_fine 15 = .ok (.iload_n 3, 1) := by decide +kernel
theorem dX10_fine_16 : decode cX10_fine 16 = .ok (.iload_n 1, 1) := by decide +kernel
theorem dX10_fine_17 : decode cX10_fine 17 = .ok (.if_icmp .gt 9, 3) := by decide +kernel
theorem dX10_fine_20 : decode cX10_fine 20 = .ok (.iload_n 3, 1) := by decide +kernel
theorem dX10_fine_21 : decode cX10_fine 21 = .ok (.ineg, 1) := by decide +kernel
theorem dX10_fine_22 : decode cX10_fine 22 = .ok (.iload_n 1, 1) := by decide +kernel
theorem dX10_fine_23 : decode cX10_fine 23 = .ok (.if_icmp .le 22, 3) := by decide +kernel
theorem dX10_fine_26 : decode cX10_fine 26 = .ok (.iinc 2 1, 3) := by decide +kernel
theorem dX10_fine_29 : decode cX10_fine 29 = .ok (.aload_n 0, 1) := by decide +kernel
theorem dX10_fine_30 : decode cX10_fine 30 = .ok (.iload_n 2, 1) := by decide +kernel
theorem dX10_fine_31 : decode cX10_fine 31 = .ok (.invokevirtual 172, 3) := by decide +kernel
theorem dX10_fine_34 : decode cX10_fine 34 = .ok (.aload_n 0, 1) := by decide +kernel
theorem dX10_fine_35 : decode cX10_fine 35 = .ok (.bipush 8, 2) := by decide +kernel
theorem dX10_fine_37 : decode cX10_fine 37 = .ok (.invokevirtual 172, 3) := by decide +kernel
theorem dX10_fine_40 : decode cX10_fine 40 = .ok (.isub, 1) := by decide +kernel
theorem dX10_fine_41 : decode cX10_fine 41 = .ok (.istore_n 3, 1) := by decide +kernel
theorem dX10_fine_42 : decode cX10_fine 42 = .ok (.goto (-27), 3) := by decide +kernel
theorem dX10_fine_45 : decode cX10_fine 45 = .ok (.iload_n 2, 1) := by decide +kernel
theorem dX10_fine_46 : decode cX10_fine 46 = .ok (.ireturn, 1) := by decide +kernel
theorem dX10_fineRake_0 : decode cX10_fineRake 0 = .ok (.aload_n 0, 1) := by decide +kernel
theorem dX10_fineRake_1 : decode cX10_fineRake 1 = .ok (.iconst 0, 1) := by decide +kernel
theorem dX10_fineRake_2 : decode cX10_fineRake 2 = .ok (.putfield 38, 3) := by decide +kernel
theorem dX10_fineRake_5 : decode cX10_fineRake 5 = .ok (.iload_n 1, 1) := by decide +kernel
theorem dX10_fineRake_6 : decode cX10_fineRake 6 = .ok (.iconst 0, 1) := by decide +kernel
theorem dX10_fineRake_7 : decode cX10_fineRake 7 = .ok (.ldc 150, 2) := by decide +kernel
theorem dX10_fineRake_9 : decode cX10_fineRake 9 = .ok (.invokestatic 45, 3) := by decide +kernel
theorem dX10_fineRake_12 : decode cX10_fineRake 12 = .ok (.ifCond .eq 11, 3) := by decide +kernel
theorem dX10_fineRake_15 : decode cX10_fineRake 15 = .ok (.aload_n 0, 1) := by decide +kernel
theorem dX10_fineRake_16 : decode cX10_fineRake 16 = .ok (.iload_n 1, 1) := by decide +kernel
theorem dX10_fineRake_17 : decode cX10_fineRake 17 = .ok (.invokevirtual 190, 3) := by decide +kernel
theorem dX10_fineRake_20 : decode cX10_fineRake 20 = .ok (.goto 8, 3) := by decide +kernel
theorem dX10_fineRake_23 : decode cX10_fineRake 23 = .ok (.aload_n 0, 1) := by decide +kernel
theorem dX10_fineRake_24 : decode cX10_fineRake 24 = .ok (.iconst 1, 1) := by decide +kernel
theorem dX10_fineRake_25 : decode cX10_fineRake 25 = .ok (.invokevirtual 110, 3) := by decide +kernel
theorem dX10_fineRake_28 : decode cX10_fineRake 28 = .ok (.ireturn, 1) := by decide +kernel
theorem dX10_even_0 : decode cX10_even 0 = .ok (.aload_n 0, 1) := by decide +kernel
theorem dX10_even_1 : decode cX10_even 1 = .ok (.invokevirtual 160, 3) := by decide +kernel
theorem dX10_even_4 : decode cX10_even 4 = .ok (.iconst 0, 1) := by decide +kernel
theorem dX10_even_5 : decode cX10_even 5 = .ok (.istore_n 1, 1) := by decide +kernel
theorem dX10_even_6 : decode cX10_even 6 = .ok (.iconst 0, 1) := by decide +kernel
theorem dX10_even_7 : decode cX10_even 7 = .ok (.istore_n 2, 1) := by decide +kernel
theorem dX10_even_8 : decode cX10_even 8 = .ok (.iconst 0, 1) := by decide +kernel
theorem dX10_even_9 : decode cX10_even 9 = .ok (.istore_n 3, 1) := by decide +kernel
theorem dX10_even_10 : decode cX10_even 10 = .ok (.iload_n 3, 1) := by decide +kernel
theorem dX10_even_11 : decode cX10_even 11 = .ok (.aload_n 0, 1) := by decide +kernel
theorem dX10_even_12 : decode cX10_even 12 = .ok (.getfield 7, 3) := by decide +kernel
theorem dX10_even_15 : decode cX10_even 15 = .ok (.bipush 6, 2) := by decide +kernel
theorem dX10_even_17 : decode cX10_even 17 = .ok (.iaload, 1) := by decide +kernel
theorem dX10_even_18 : decode cX10_even 18 = .ok (.if_icmp .ge 62, 3) := by decide +kernel
theorem dX10_even_21 : decode cX10_even 21 = .ok (.aload_n 0, 1) := by decide +kernel
theorem dX10_even_22 : decode cX10_even 22 = .ok (.getfield 93, 3) := by decide +kernel
theorem dX10_even_25 : decode cX10_even 25 = .ok (.ifCond .le 55, 3) := by decide +kernel
theorem dX10_even_28 : decode cX10_even 28 = .ok (.iload_n 3, 1) := by decide +kernel
theorem dX10_even_29 : decode cX10_even 29 = .ok (.ifCond .eq 13, 3) := by decide +kernel
theorem dX10_even_32 : decode cX10_even 32 = .ok (.aload_n 0, 1) := by decide +kernel
theorem dX10_even_33 : decode cX10_even 33 = .ok (.getfield 32, 3) := by decide +kernel
theorem dX10_even_36 : decode cX10_even 36 = .ok (.iload_n 3, 1) := by decide +kernel
theorem dX10_even_37 : decode cX10_even 37 = .ok (.iaload, 1) := by decide +kernel
theorem dX10_even_38 : decode cX10_even 38 = .ok (.iload_n 1, 1) := by decide +kernel
theorem dX10_even_39 : decode cX10_even 39 = .ok (.if_icmp .ge 12, 3) := by decide +kernel
theorem dX10_even_42 : decode cX10_even 42 = .ok (.aload_n 0, 1) := by decide +kernel
theorem dX10_even_43 : decode cX10_even 43 = .ok (.getfield 32, 3) := by decide +kernel
theorem dX10_even_46 : decode cX10_even 46 = .ok (.iload_n 3, 1) := by decide +kernel
theorem dX10_even_47 : decode cX10_even 47 = .ok (.iaload, 1) := by decide +kernel
theorem dX10_even_48 : decode cX10_even 48 = .ok (.goto 4, 3) := by decide +kernel
theorem dX10_even_51 : decode cX10_even 51 = .ok (.iload_n 1, 1) := by decide +kernel
theorem dX10_even_52 : decode cX10_even 52 = .ok (.istore_n 1, 1) := by decide +kernel
theorem dX10_even_53 : decode cX10_even 53 = .ok (.aload_n 0, 1) := by decide +kernel
theorem dX10_even_54 : decode cX10_even 54 = .ok (.getfield 32, 3) := by decide +kernel
theorem dX10_even_57 : decode cX10_even 57 = .ok (.iload_n 3, 1) := by decide +kernel
theorem dX10_even_58 : decode cX10_even 58 = .ok (.iaload, 1) := by decide +kernel
theorem dX10_even_59 : decode cX10_even 59 = .ok (.iload_n 2, 1) := by decide +kernel
theorem dX10_even_60 : decode cX10_even 60 = .ok (.if_icmp .le 12, 3) := by decide +kernel
theorem dX10_even_63 : decode cX10_even 63 = .ok (.aload_n 0, 1) := by decide +kernel
theorem dX10_even_64 : decode cX10_even 64 = .ok (.getfield 32, 3) := by decide +kernel
theorem dX10_even_67 : decode cX10_even 67 = .ok (.iload_n 3, 1) := by decide +kernel
theorem dX10_even_68 : decode cX10_even 68 = .ok (.iaload, 1) := by decide +kernel
theorem dX10_even_69 : decode cX10_even 69 = .ok (.goto 4, 3) := by decide +kernel
theorem dX10_even_72 : decode cX10_even 72 = .ok (.iload_n 2, 1) := by decide +kernel
theorem dX10_even_73 : decode cX10_even 73 = .ok (.istore_n 2, 1) := by decide +kernel
theorem dX10_even_74 : decode cX10_even 74 = .ok (.iinc 3 1, 3) := by decide +kernel
theorem dX10_even_77 : decode cX10_even 77 = .ok (.goto (-67), 3) := by decide +kernel
theorem dX10_even_80 : decode cX10_even 80 = .ok (.iload_n 2, 1) := by decide +kernel
theorem dX10_even_81 : decode cX10_even 81 = .ok (.ifCond .ne 7, 3) := by decide +kernel
theorem dX10_even_84 : decode cX10_even 84 = .ok (.dconst 0, 1) := by decide +kernel
theorem dX10_even_85 : decode cX10_even 85 = .ok (.goto 8, 3) := by decide +kernel
theorem dX10_even_88 : decode cX10_even 88 = .ok (.iload_n 1, 1) := by decide +kernel
theorem dX10_even_89 : decode cX10_even 89 = .ok (.i2d, 1) := by decide +kernel
theorem dX10_even_90 : decode cX10_even 90 = .ok (.iload_n 2, 1) := by decide +kernel
theorem dX10_even_91 : decode cX10_even 91 = .ok (.i2d, 1) := by decide +kernel
theorem dX10_even_92 : decode cX10_even 92 = .ok (.ddiv, 1) := by decide +kernel
theorem dX10_even_93 : decode cX10_even 93 = .ok (.dreturn, 1) := by decide +kernel
theorem dX10_evenness_0 : decode cX10_evenness 0 = .ok (.aload_n 0, 1) := by decide +kernel
theorem dX10_evenness_1 : decode cX10_evenness 1 = .ok (.iconst 0, 1) := by decide +kernel
theorem dX10_evenness_2 : decode cX10_evenness 2 = .ok (.putfield 38, 3) := by decide +kernel
theorem dX10_evenness_5 : decode cX10_evenness 5 = .ok (.aload_n 0, 1) := by decide +kernel
theorem dX10_evenness_6 : decode cX10_evenness 6 = .ok (.invokevirtual 193, 3) := by decide +kernel
theorem dX10_evenness_9 : decode cX10_evenness 9 = .ok (.dreturn, 1) := by decide +kernel
theorem dX10_hashes_0 : decode cX10_hashes 0 = .ok (.aload_n 0, 1) := by decide +kernel
theorem dX10_hashes_1 : decode cX10_hashes 1 = .ok (.ldc2_w 197, 3) := by decide +kernel
theorem dX10_hashes_4 : decode cX10_hashes 4 = .ok (.aload_n 0, 1) := by decide +kernel
theorem dX10_hashes_5 : decode cX10_hashes 5 = .ok (.getfield 199, 3) := by decide +kernel
theorem dX10_hashes_8 : decode cX10_hashes 8 = .ok (.lmul, 1) := by decide +kernel
theorem dX10_hashes_9 : decode cX10_hashes 9 = .ok (.lload_n 1, 1) := by decide +kernel
theorem dX10_hashes_10 : decode cX10_hashes 10 = .ok (.ladd, 1) := by decide +kernel
theorem dX10_hashes_11 : decode cX10_hashes 11 = .ok (.putfield 199, 3) := by decide +kernel
theorem dX10_hashes_14 : decode cX10_hashes 14 = .ok (.return_, 1) := by decide +kernel
theorem dX10_hashesHole_0 : decode cX10_hashesHole 0 = .ok (.iconst 0, 1) := by decide +kernel
theorem dX10_hashesHole_1 : decode cX10_hashesHole 1 = .ok (.istore_n 2, 1) := by decide +kernel
theorem dX10_hashesHole_2 : decode cX10_hashesHole 2 = .ok (.iload_n 2, 1) := by decide +kernel
theorem dX10_hashesHole_3 : decode cX10_hashesHole 3 = .ok (.bipush 12, 2) := by decide +kernel
theorem dX10_hashesHole_5 : decode cX10_hashesHole 5 = .ok (.if_icmp .ge 20, 3) := by decide +kernel
theorem dX10_hashesHole_8 : decode cX10_hashesHole 8 = .ok (.aload_n 0, 1) := by decide +kernel
theorem dX10_hashesHole_9 : decode cX10_hashesHole 9 = .ok (.aload_n 0, 1) := by decide +kernel
theorem dX10_hashesHole_10 : decode cX10_hashesHole 10 = .ok (.iload_n 1, 1) := by decide +kernel
theorem dX10_hashesHole_11 : decode cX10_hashesHole 11 = .ok (.iload_n 2, 1) := by decide +kernel
theorem dX10_hashesHole_12 : decode cX10_hashesHole 12 = .ok (.invokevirtual 166, 3) := by decide +kernel
theorem dX10_hashesHole_15 : decode cX10_hashesHole 15 = .ok (.i2l, 1) := by decide +kernel
theorem dX10_hashesHole_16 : decode cX10_hashesHole 16 = .ok (.invokevirtual 203, 3) := by decide +kernel
theorem dX10_hashesHole_19 : decode cX10_hashesHole 19 = .ok (.iinc 2 1, 3) := by decide +kernel
theorem dX10_hashesHole_22 : decode cX10_hashesHole 22 = .ok (.goto (-20), 3) := by decide +kernel
theorem dX10_hashesHole_25 : decode cX10_hashesHole 25 = .ok (.aload_n 0, 1) := by decide +kernel
theorem dX10_hashesHole_26 : decode cX10_hashesHole 26 = .ok (.aload_n 0, 1) := by decide +kernel
theorem dX10_hashesHole_27 : decode cX10_hashesHole 27 = .ok (.iload_n 1, 1) := by decide +kernel
theorem dX10_hashesHole_28 : decode cX10_hashesHole 28 = .ok (.invokevirtual 184, 3) := by decide +kernel
theorem dX10_hashesHole_31 : decode cX10_hashesHole 31 = .ok (.i2l, 1) := by decide +kernel
theorem dX10_hashesHole_32 : decode cX10_hashesHole 32 = .ok (.invokevirtual 203, 3) := by decide +kernel
theorem dX10_hashesHole_35 : decode cX10_hashesHole 35 = .ok (.return_, 1) := by decide +kernel
theorem dX10_digest_0 : decode cX10_digest 0 = .ok (.aload_n 0, 1) := by decide +kernel
theorem dX10_digest_1 : decode cX10_digest 1 = .ok (.iconst 0, 1) := by decide +kernel
theorem dX10_digest_2 : decode cX10_digest 2 = .ok (.putfield 38, 3) := by decide +kernel
theorem dX10_digest_5 : decode cX10_digest 5 = .ok (.aload_n 0, 1) := by decide +kernel
theorem dX10_digest_6 : decode cX10_digest 6 = .ok (.ldc2_w 207, 3) := by decide +kernel
theorem dX10_digest_9 : decode cX10_digest 9 = .ok (.putfield 199, 3) := by decide +kernel
theorem dX10_digest_12 : decode cX10_digest 12 = .ok (.iconst 0, 1) := by decide +kernel
theorem dX10_digest_13 : decode cX10_digest 13 = .ok (.istore_n 1, 1) := by decide +kernel
theorem dX10_digest_14 : decode cX10_digest 14 = .ok (.iload_n 1, 1) := by decide +kernel
theorem dX10_digest_15 : decode cX10_digest 15 = .ok (.bipush 14, 2) := by decide +kernel
theorem dX10_digest_17 : decode cX10_digest 17 = .ok (.if_icmp .ge 19, 3) := by decide +kernel
theorem dX10_digest_20 : decode cX10_digest 20 = .ok (.aload_n 0, 1) := by decide +kernel
theorem dX10_digest_21 : decode cX10_digest 21 = .ok (.aload_n 0, 1) := by decide +kernel
theorem dX10_digest_22 : decode cX10_digest 22 = .ok (.iload_n 1, 1) := by decide +kernel
theorem dX10_digest_23 : decode cX10_digest 23 = .ok (.invokevirtual 181, 3) := by decide +kernel
theorem dX10_digest_26 : decode cX10_digest 26 = .ok (.i2l, 1) := by decide +kernel
theorem dX10_digest_27 : decode cX10_digest 27 = .ok (.invokevirtual 203, 3) := by decide +kernel
theorem dX10_digest_30 : decode cX10_digest 30 = .ok (.iinc 1 1, 3) := by decide +kernel
theorem dX10_digest_33 : decode cX10_digest 33 = .ok (.goto (-19), 3) := by decide +kernel
theorem dX10_digest_36 : decode cX10_digest 36 = .ok (.iconst 0, 1) := by decide +kernel
theorem dX10_digest_37 : decode cX10_digest 37 = .ok (.istore_n 1, 1) := by decide +kernel
theorem dX10_digest_38 : decode cX10_digest 38 = .ok (.iload_n 1, 1) := by decide +kernel
theorem dX10_digest_39 : decode cX10_digest 39 = .ok (.iconst 5, 1) := by decide +kernel
theorem dX10_digest_40 : decode cX10_digest 40 = .ok (.if_icmp .ge 20, 3) := by decide +kernel
theorem dX10_digest_43 : decode cX10_digest 43 = .ok (.aload_n 0, 1) := by decide +kernel
theorem dX10_digest_44 : decode cX10_digest 44 = .ok (.aload_n 0, 1) := by decide +kernel
theorem dX10_digest_45 : decode cX10_digest 45 = .ok (.getfield 7, 3) := by decide +kernel
theorem dX10_digest_48 : decode cX10_digest 48 = .ok (.iload_n 1, 1) := by decide +kernel
theorem dX10_digest_49 : decode cX10_digest 49 = .ok (.iaload, 1) := by decide +kernel
theorem dX10_digest_50 : decode cX10_digest 50 = .ok (.i2l, 1) := by decide +kernel
theorem dX10_digest_51 : decode cX10_digest 51 = .ok (.invokevirtual 203, 3) := by decide +kernel
theorem dX10_digest_54 : decode cX10_digest 54 = .ok (.iinc 1 1, 3) := by decide +kernel
theorem dX10_digest_57 : decode cX10_digest 57 = .ok (.goto (-19), 3) := by decide +kernel
theorem dX10_digest_60 : decode cX10_digest 60 = .ok (.iconst 0, 1) := by decide +kernel
theorem dX10_digest_61 : decode cX10_digest 61 = .ok (.istore_n 1, 1) := by decide +kernel
theorem dX10_digest_62 : decode cX10_digest 62 = .ok (.iload_n 1, 1) := by decide +kernel
theorem dX10_digest_63 : decode cX10_digest 63 = .ok (.aload_n 0, 1) := by decide +kernel
theorem dX10_digest_64 : decode cX10_digest 64 = .ok (.getfield 7, 3) := by decide +kernel
theorem dX10_digest_67 : decode cX10_digest 67 = .ok (.bipush 6, 2) := by decide +kernel
theorem dX10_digest_69 : decode cX10_digest 69 = .ok (.iaload, 1) := by decide +kernel
theorem dX10_digest_70 : decode cX10_digest 70 = .ok (.if_icmp .ge 14, 3) := by decide +kernel
theorem dX10_digest_73 : decode cX10_digest 73 = .ok (.aload_n 0, 1) := by decide +kernel
theorem dX10_digest_74 : decode cX10_digest 74 = .ok (.iload_n 1, 1) := by decide +kernel
theorem dX10_digest_75 : decode cX10_digest 75 = .ok (.invokevirtual 209, 3) := by decide +kernel
theorem dX10_digest_78 : decode cX10_digest 78 = .ok (.iinc 1 1, 3) := by decide +kernel
theorem dX10_digest_81 : decode cX10_digest 81 = .ok (.goto (-19), 3) := by decide +kernel
theorem dX10_digest_84 : decode cX10_digest 84 = .ok (.iconst 0, 1) := by decide +kernel
theorem dX10_digest_85 : decode cX10_digest 85 = .ok (.istore_n 1, 1) := by decide +kernel
theorem dX10_digest_86 : decode cX10_digest 86 = .ok (.iload_n 1, 1) := by decide +kernel
theorem dX10_digest_87 : decode cX10_digest 87 = .ok (.bipush 11, 2) := by decide +kernel
theorem dX10_digest_89 : decode cX10_digest 89 = .ok (.aload_n 0, 1) := by decide +kernel
theorem dX10_digest_90 : decode cX10_digest 90 = .ok (.getfield 7, 3) := by decide +kernel
theorem dX10_digest_93 : decode cX10_digest 93 = .ok (.bipush 7, 2) := by decide +kernel
theorem dX10_digest_95 : decode cX10_digest 95 = .ok (.iaload, 1) := by decide +kernel
theorem dX10_digest_96 : decode cX10_digest 96 = .ok (.imul, 1) := by decide +kernel
theorem dX10_digest_97 : decode cX10_digest 97 = .ok (.if_icmp .ge 26, 3) := by decide +kernel
theorem dX10_digest_100 : decode cX10_digest 100 = .ok (.aload_n 0, 1) := by decide +kernel
theorem dX10_digest_101 : decode cX10_digest 101 = .ok (.aload_n 0, 1) := by decide +kernel
theorem dX10_digest_102 : decode cX10_digest 102 = .ok (.iload_n 1, 1) := by decide +kernel
theorem dX10_digest_103 : decode cX10_digest 103 = .ok (.bipush 11, 2) := by decide +kernel
theorem dX10_digest_105 : decode cX10_digest 105 = .ok (.idiv, 1) := by decide +kernel
theorem dX10_digest_106 : decode cX10_digest 106 = .ok (.iload_n 1, 1) := by decide +kernel
theorem dX10_digest_107 : decode cX10_digest 107 = .ok (.bipush 11, 2) := by decide +kernel
theorem dX10_digest_109 : decode cX10_digest 109 = .ok (.irem, 1) := by decide +kernel
theorem dX10_digest_110 : decode cX10_digest 110 = .ok (.invokevirtual 169, 3) := by decide +kernel
theorem dX10_digest_113 : decode cX10_digest 113 = .ok (.i2l, 1) := by decide +kernel
theorem dX10_digest_114 : decode cX10_digest 114 = .ok (.invokevirtual 203, 3) := by decide +kernel
theorem dX10_digest_117 : decode cX10_digest 117 = .ok (.iinc 1 1, 3) := by decide +kernel
theorem dX10_digest_120 : decode cX10_digest 120 = .ok (.goto (-34), 3) := by decide +kernel
theorem dX10_digest_123 : decode cX10_digest 123 = .ok (.iconst 0, 1) := by decide +kernel
theorem dX10_digest_124 : decode cX10_digest 124 = .ok (.istore_n 1, 1) := by decide +kernel
theorem dX10_digest_125 : decode cX10_digest 125 = .ok (.iload_n 1, 1) := by decide +kernel
theorem dX10_digest_126 : decode cX10_digest 126 = .ok (.iconst 4, 1) := by decide +kernel
theorem dX10_digest_127 : decode cX10_digest 127 = .ok (.if_icmp .ge 19, 3) := by decide +kernel
theorem dX10_digest_130 : decode cX10_digest 130 = .ok (.aload_n 0, 1) := by decide +kernel
theorem dX10_digest_131 : decode cX10_digest 131 = .ok (.aload_n 0, 1) := by decide +kernel
theorem dX10_digest_132 : decode cX10_digest 132 = .ok (.iload_n 1, 1) := by decide +kernel
theorem dX10_digest_133 : decode cX10_digest 133 = .ok (.invokevirtual 175, 3) := by decide +kernel
theorem dX10_digest_136 : decode cX10_digest 136 = .ok (.i2l, 1) := by decide +kernel
end
section
theorem dX10_digest_137 : decode cX10_digest 137 = .ok (.invokevirtual 203, 3) := by decide +kernel
theorem dX10_digest_140 : decode cX10_digest 140 = .ok (.iinc 1 1, 3) := by decide +kernel
theorem dX10_digest_143 : decode cX10_digest 143 = .ok (.goto (-18), 3) := by decide +kernel
theorem dX10_digest_146 : decode cX10_digest 146 = .ok (.aload_n 0, 1) := by decide +kernel
theorem dX10_digest_147 : decode cX10_digest 147 = .ok (.aload_n 0, 1) := by decide +kernel
theorem dX10_digest_148 : decode cX10_digest 148 = .ok (.invokevirtual 187, 3) := by decide +kernel
theorem dX10_digest_151 : decode cX10_digest 151 = .ok (.i2l, 1) := by decide +kernel
theorem dX10_digest_152 : decode cX10_digest 152 = .ok (.invokevirtual 203, 3) := by decide +kernel
theorem dX10_digest_155 : decode cX10_digest 155 = .ok (.iconst 2, 1) := by decide +kernel
theorem dX10_digest_156 : decode cX10_digest 156 = .ok (.istore_n 1, 1) := by decide +kernel
theorem dX10_digest_157 : decode cX10_digest 157 = .ok (.iload_n 1, 1) := by decide +kernel
theorem dX10_digest_158 : decode cX10_digest 158 = .ok (.bipush 8, 2) := by decide +kernel
theorem dX10_digest_160 : decode cX10_digest 160 = .ok (.if_icmp .gt 19, 3) := by decide +kernel
theorem dX10_digest_163 : decode cX10_digest 163 = .ok (.aload_n 0, 1) := by decide +kernel
theorem dX10_digest_164 : decode cX10_digest 164 = .ok (.aload_n 0, 1) := by decide +kernel
theorem dX10_digest_165 : decode cX10_digest 165 = .ok (.iload_n 1, 1) := by decide +kernel
theorem dX10_digest_166 : decode cX10_digest 166 = .ok (.invokevirtual 172, 3) := by decide +kernel
theorem dX10_digest_169 : decode cX10_digest 169 = .ok (.i2l, 1) := by decide +kernel
theorem dX10_digest_170 : decode cX10_digest 170 = .ok (.invokevirtual 203, 3) := by decide +kernel
theorem dX10_digest_173 : decode cX10_digest 173 = .ok (.iinc 1 1, 3) := by decide +kernel
theorem dX10_digest_176 : decode cX10_digest 176 = .ok (.goto (-19), 3) := by decide +kernel
theorem dX10_digest_179 : decode cX10_digest 179 = .ok (.aload_n 0, 1) := by decide +kernel
theorem dX10_digest_180 : decode cX10_digest 180 = .ok (.aload_n 0, 1) := by decide +kernel
theorem dX10_digest_181 : decode cX10_digest 181 = .ok (.sipush 1000, 3) := by decide +kernel
theorem dX10_digest_184 : decode cX10_digest 184 = .ok (.invokevirtual 190, 3) := by decide +kernel
theorem dX10_digest_187 : decode cX10_digest 187 = .ok (.i2l, 1) := by decide +kernel
theorem dX10_digest_188 : decode cX10_digest 188 = .ok (.invokevirtual 203, 3) := by decide +kernel
theorem dX10_digest_191 : decode cX10_digest 191 = .ok (.aload_n 0, 1) := by decide +kernel
theorem dX10_digest_192 : decode cX10_digest 192 = .ok (.aload_n 0, 1) := by decide +kernel
theorem dX10_digest_193 : decode cX10_digest 193 = .ok (.invokevirtual 193, 3) := by decide +kernel
theorem dX10_digest_196 : decode cX10_digest 196 = .ok (.invokestatic 212, 3) := by decide +kernel
theorem dX10_digest_199 : decode cX10_digest 199 = .ok (.invokevirtual 203, 3) := by decide +kernel
theorem dX10_digest_202 : decode cX10_digest 202 = .ok (.aload_n 0, 1) := by decide +kernel
theorem dX10_digest_203 : decode cX10_digest 203 = .ok (.aload_n 0, 1) := by decide +kernel
theorem dX10_digest_204 : decode cX10_digest 204 = .ok (.getfield 19, 3) := by decide +kernel
theorem dX10_digest_207 : decode cX10_digest 207 = .ok (.iconst 0, 1) := by decide +kernel
theorem dX10_digest_208 : decode cX10_digest 208 = .ok (.baload, 1) := by decide +kernel
theorem dX10_digest_209 : decode cX10_digest 209 = .ok (.ifCond .eq 7, 3) := by decide +kernel
theorem dX10_digest_212 : decode cX10_digest 212 = .ok (.lconst 1, 1) := by decide +kernel
theorem dX10_digest_213 : decode cX10_digest 213 = .ok (.goto 4, 3) := by decide +kernel
theorem dX10_digest_216 : decode cX10_digest 216 = .ok (.lconst 0, 1) := by decide +kernel
theorem dX10_digest_217 : decode cX10_digest 217 = .ok (.invokevirtual 203, 3) := by decide +kernel
theorem dX10_digest_220 : decode cX10_digest 220 = .ok (.aload_n 0, 1) := by decide +kernel
theorem dX10_digest_221 : decode cX10_digest 221 = .ok (.aload_n 0, 1) := by decide +kernel
theorem dX10_digest_222 : decode cX10_digest 222 = .ok (.getfield 19, 3) := by decide +kernel
theorem dX10_digest_225 : decode cX10_digest 225 = .ok (.iconst 1, 1) := by decide +kernel
theorem dX10_digest_226 : decode cX10_digest 226 = .ok (.baload, 1) := by decide +kernel
theorem dX10_digest_227 : decode cX10_digest 227 = .ok (.ifCond .eq 7, 3) := by decide +kernel
theorem dX10_digest_230 : decode cX10_digest 230 = .ok (.lconst 1, 1) := by decide +kernel
theorem dX10_digest_231 : decode cX10_digest 231 = .ok (.goto 4, 3) := by decide +kernel
theorem dX10_digest_234 : decode cX10_digest 234 = .ok (.lconst 0, 1) := by decide +kernel
theorem dX10_digest_235 : decode cX10_digest 235 = .ok (.invokevirtual 203, 3) := by decide +kernel
theorem dX10_digest_238 : decode cX10_digest 238 = .ok (.aload_n 0, 1) := by decide +kernel
theorem dX10_digest_239 : decode cX10_digest 239 = .ok (.aload_n 0, 1) := by decide +kernel
theorem dX10_digest_240 : decode cX10_digest 240 = .ok (.getfield 137, 3) := by decide +kernel
theorem dX10_digest_243 : decode cX10_digest 243 = .ok (.i2l, 1) := by decide +kernel
theorem dX10_digest_244 : decode cX10_digest 244 = .ok (.invokevirtual 203, 3) := by decide +kernel
theorem dX10_digest_247 : decode cX10_digest 247 = .ok (.iconst 0, 1) := by decide +kernel
theorem dX10_digest_248 : decode cX10_digest 248 = .ok (.istore_n 1, 1) := by decide +kernel
theorem dX10_digest_249 : decode cX10_digest 249 = .ok (.iload_n 1, 1) := by decide +kernel
theorem dX10_digest_250 : decode cX10_digest 250 = .ok (.aload_n 0, 1) := by decide +kernel
theorem dX10_digest_251 : decode cX10_digest 251 = .ok (.getfield 137, 3) := by decide +kernel
theorem dX10_digest_254 : decode cX10_digest 254 = .ok (.if_icmp .ge 20, 3) := by decide +kernel
theorem dX10_digest_257 : decode cX10_digest 257 = .ok (.aload_n 0, 1) := by decide +kernel
theorem dX10_digest_258 : decode cX10_digest 258 = .ok (.aload_n 0, 1) := by decide +kernel
theorem dX10_digest_259 : decode cX10_digest 259 = .ok (.getfield 23, 3) := by decide +kernel
theorem dX10_digest_262 : decode cX10_digest 262 = .ok (.iload_n 1, 1) := by decide +kernel
theorem dX10_digest_263 : decode cX10_digest 263 = .ok (.iaload, 1) := by decide +kernel
theorem dX10_digest_264 : decode cX10_digest 264 = .ok (.i2l, 1) := by decide +kernel
theorem dX10_digest_265 : decode cX10_digest 265 = .ok (.invokevirtual 203, 3) := by decide +kernel
theorem dX10_digest_268 : decode cX10_digest 268 = .ok (.iinc 1 1, 3) := by decide +kernel
theorem dX10_digest_271 : decode cX10_digest 271 = .ok (.goto (-22), 3) := by decide +kernel
theorem dX10_digest_274 : decode cX10_digest 274 = .ok (.aload_n 0, 1) := by decide +kernel
theorem dX10_digest_275 : decode cX10_digest 275 = .ok (.getfield 199, 3) := by decide +kernel
theorem dX10_digest_278 : decode cX10_digest 278 = .ok (.lreturn, 1) := by decide +kernel
theorem dJxe99ae_isNaN_b9ae7_0 : decode cJxe99ae_isNaN_b9ae7 0 = .ok (.dload_n 0, 1) := by decide +kernel
theorem dJxe99ae_isNaN_b9ae7_1 : decode cJxe99ae_isNaN_b9ae7 1 = .ok (.dload_n 0, 1) := by decide +kernel
theorem dJxe99ae_isNaN_b9ae7_2 : decode cJxe99ae_isNaN_b9ae7 2 = .ok (.dcmp .l, 1) := by decide +kernel
theorem dJxe99ae_isNaN_b9ae7_3 : decode cJxe99ae_isNaN_b9ae7 3 = .ok (.ifCond .eq 7, 3) := by decide +kernel
theorem dJxe99ae_isNaN_b9ae7_6 : decode cJxe99ae_isNaN_b9ae7 6 = .ok (.iconst 1, 1) := by decide +kernel
theorem dJxe99ae_isNaN_b9ae7_7 : decode cJxe99ae_isNaN_b9ae7 7 = .ok (.goto 4, 3) := by decide +kernel
theorem dJxe99ae_isNaN_b9ae7_10 : decode cJxe99ae_isNaN_b9ae7 10 = .ok (.iconst 0, 1) := by decide +kernel
theorem dJxe99ae_isNaN_b9ae7_11 : decode cJxe99ae_isNaN_b9ae7 11 = .ok (.ireturn, 1) := by decide +kernel
theorem dJxe99ae_doubleToLongBits_ccdee_0 : decode cJxe99ae_doubleToLongBits_ccdee 0 = .ok (.dload_n 0, 1) := by decide +kernel
theorem dJxe99ae_doubleToLongBits_ccdee_1 : decode cJxe99ae_doubleToLongBits_ccdee 1 = .ok (.invokestatic 122, 3) := by decide +kernel
theorem dJxe99ae_doubleToLongBits_ccdee_4 : decode cJxe99ae_doubleToLongBits_ccdee 4 = .ok (.ifCond .ne 8, 3) := by decide +kernel
theorem dJxe99ae_doubleToLongBits_ccdee_7 : decode cJxe99ae_doubleToLongBits_ccdee 7 = .ok (.dload_n 0, 1) := by decide +kernel
theorem dJxe99ae_doubleToLongBits_ccdee_8 : decode cJxe99ae_doubleToLongBits_ccdee 8 = .ok (.invokestatic 134, 3) := by decide +kernel
theorem dJxe99ae_doubleToLongBits_ccdee_11 : decode cJxe99ae_doubleToLongBits_ccdee 11 = .ok (.lreturn, 1) := by decide +kernel
theorem dJxe99ae_doubleToLongBits_ccdee_12 : decode cJxe99ae_doubleToLongBits_ccdee 12 = .ok (.ldc2_w 137, 3) := by decide +kernel
theorem dJxe99ae_doubleToLongBits_ccdee_15 : decode cJxe99ae_doubleToLongBits_ccdee 15 = .ok (.lreturn, 1) := by decide +kernel
theorem dJ9_abs_0f7a4_0 : decode cJ9_abs_0f7a4 0 = .ok (.iload_n 0, 1) := by decide +kernel
theorem dJ9_abs_0f7a4_1 : decode cJ9_abs_0f7a4 1 = .ok (.ifCond .ge 8, 3) := by decide +kernel
theorem dJ9_abs_0f7a4_4 : decode cJ9_abs_0f7a4 4 = .ok (.iload_n 0, 1) := by decide +kernel
theorem dJ9_abs_0f7a4_5 : decode cJ9_abs_0f7a4 5 = .ok (.ineg, 1) := by decide +kernel
theorem dJ9_abs_0f7a4_6 : decode cJ9_abs_0f7a4 6 = .ok (.goto 4, 3) := by decide +kernel
theorem dJ9_abs_0f7a4_9 : decode cJ9_abs_0f7a4 9 = .ok (.iload_n 0, 1) := by decide +kernel
theorem dJ9_abs_0f7a4_10 : decode cJ9_abs_0f7a4 10 = .ok (.ireturn, 1) := by decide +kernel
theorem dJ9_max_7cf53_0 : decode cJ9_max_7cf53 0 = .ok (.iload_n 0, 1) := by decide +kernel
theorem dJ9_max_7cf53_1 : decode cJ9_max_7cf53 1 = .ok (.iload_n 1, 1) := by decide +kernel
theorem dJ9_max_7cf53_2 : decode cJ9_max_7cf53 2 = .ok (.if_icmp .lt 7, 3) := by decide +kernel
theorem dJ9_max_7cf53_5 : decode cJ9_max_7cf53 5 = .ok (.iload_n 0, 1) := by decide +kernel
theorem dJ9_max_7cf53_6 : decode cJ9_max_7cf53 6 = .ok (.goto 4, 3) := by decide +kernel
theorem dJ9_max_7cf53_9 : decode cJ9_max_7cf53 9 = .ok (.iload_n 1, 1) := by decide +kernel
theorem dJ9_max_7cf53_10 : decode cJ9_max_7cf53 10 = .ok (.ireturn, 1) := by decide +kernel
theorem dJ9_min_7cf53_0 : decode cJ9_min_7cf53 0 = .ok (.iload_n 0, 1) := by decide +kernel
theorem dJ9_min_7cf53_1 : decode cJ9_min_7cf53 1 = .ok (.iload_n 1, 1) := by decide +kernel
theorem dJ9_min_7cf53_2 : decode cJ9_min_7cf53 2 = .ok (.if_icmp .gt 7, 3) := by decide +kernel
theorem dJ9_min_7cf53_5 : decode cJ9_min_7cf53 5 = .ok (.iload_n 0, 1) := by decide +kernel
theorem dJ9_min_7cf53_6 : decode cJ9_min_7cf53 6 = .ok (.goto 4, 3) := by decide +kernel
theorem dJ9_min_7cf53_9 : decode cJ9_min_7cf53 9 = .ok (.iload_n 1, 1) := by decide +kernel
theorem dJ9_min_7cf53_10 : decode cJ9_min_7cf53 10 = .ok (.ireturn, 1) := by decide +kernel
theorem dL_rake_0 : decode cL_rake 0 = .ok (.aload_n 2, 1) := by decide +kernel
theorem dL_rake_1 : decode cL_rake 1 = .ok (.iconst 0, 1) := by decide +kernel
theorem dL_rake_2 : decode cL_rake 2 = .ok (.aload_n 0, 1) := by decide +kernel
theorem dL_rake_3 : decode cL_rake 3 = .ok (.iload_n 1, 1) := by decide +kernel
theorem dL_rake_4 : decode cL_rake 4 = .ok (.invokevirtual 7, 3) := by decide +kernel
theorem dL_rake_7 : decode cL_rake 7 = .ok (.i2l, 1) := by decide +kernel
theorem dL_rake_8 : decode cL_rake 8 = .ok (.lastore, 1) := by decide +kernel
theorem dL_rake_9 : decode cL_rake 9 = .ok (.goto 6, 3) := by decide +kernel
theorem dL_rake_12 : decode cL_rake 12 = .ok (.astore_n 3, 1) := by decide +kernel
theorem dL_rake_13 : decode cL_rake 13 = .ok (.iconst 1, 1) := by decide +kernel
theorem dL_rake_14 : decode cL_rake 14 = .ok (.ireturn, 1) := by decide +kernel
theorem dL_rake_15 : decode cL_rake 15 = .ok (.iconst 0, 1) := by decide +kernel
theorem dL_rake_16 : decode cL_rake 16 = .ok (.ireturn, 1) := by decide +kernel
theorem dL_radius_0 : decode cL_radius 0 = .ok (.aload_n 2, 1) := by decide +kernel
theorem dL_radius_1 : decode cL_radius 1 = .ok (.iconst 0, 1) := by decide +kernel
theorem dL_radius_2 : decode cL_radius 2 = .ok (.aload_n 0, 1) := by decide +kernel
theorem dL_radius_3 : decode cL_radius 3 = .ok (.iload_n 1, 1) := by decide +kernel
theorem dL_radius_4 : decode cL_radius 4 = .ok (.invokevirtual 15, 3) := by decide +kernel
theorem dL_radius_7 : decode cL_radius 7 = .ok (.i2l, 1) := by decide +kernel
theorem dL_radius_8 : decode cL_radius 8 = .ok (.lastore, 1) := by decide +kernel
theorem dL_radius_9 : decode cL_radius 9 = .ok (.goto 6, 3) := by decide +kernel
theorem dL_radius_12 : decode cL_radius 12 = .ok (.astore_n 3, 1) := by decide +kernel
theorem dL_radius_13 : decode cL_radius 13 = .ok (.iconst 1, 1) := by decide +kernel
theorem dL_radius_14 : decode cL_radius 14 = .ok (.ireturn, 1) := by decide +kernel
theorem dL_radius_15 : decode cL_radius 15 = .ok (.iconst 0, 1) := by decide +kernel
theorem dL_radius_16 : decode cL_radius 16 = .ok (.ireturn, 1) := by decide +kernel
theorem dL_block_0 : decode cL_block 0 = .ok (.aload_n 3, 1) := by decide +kernel
theorem dL_block_1 : decode cL_block 1 = .ok (.iconst 0, 1) := by decide +kernel
theorem dL_block_2 : decode cL_block 2 = .ok (.aload_n 0, 1) := by decide +kernel
theorem dL_block_3 : decode cL_block 3 = .ok (.iload_n 1, 1) := by decide +kernel
theorem dL_block_4 : decode cL_block 4 = .ok (.iload_n 2, 1) := by decide +kernel
theorem dL_block_5 : decode cL_block 5 = .ok (.invokevirtual 18, 3) := by decide +kernel
theorem dL_block_8 : decode cL_block 8 = .ok (.i2l, 1) := by decide +kernel
theorem dL_block_9 : decode cL_block 9 = .ok (.lastore, 1) := by decide +kernel
theorem dL_block_10 : decode cL_block 10 = .ok (.goto 11, 3) := by decide +kernel
theorem dL_block_13 : decode cL_block 13 = .ok (.astore 4, 2) := by decide +kernel
theorem dL_block_15 : decode cL_block 15 = .ok (.iconst 1, 1) := by decide +kernel
theorem dL_block_16 : decode cL_block 16 = .ok (.ireturn, 1) := by decide +kernel
theorem dL_block_17 : decode cL_block 17 = .ok (.astore 4, 2) := by decide +kernel
theorem dL_block_19 : decode cL_block 19 = .ok (.iconst 2, 1) := by decide +kernel
theorem dL_block_20 : decode cL_block 20 = .ok (.ireturn, 1) := by decide +kernel
theorem dL_block_21 : decode cL_block 21 = .ok (.iconst 0, 1) := by decide +kernel
theorem dL_block_22 : decode cL_block 22 = .ok (.ireturn, 1) := by decide +kernel
theorem dL_leak_0 : decode cL_leak 0 = .ok (.aload_n 3, 1) := by decide +kernel
theorem dL_leak_1 : decode cL_leak 1 = .ok (.iconst 0, 1) := by decide +kernel
theorem dL_leak_2 : decode cL_leak 2 = .ok (.aload_n 0, 1) := by decide +kernel
theorem dL_leak_3 : decode cL_leak 3 = .ok (.iload_n 1, 1) := by decide +kernel
theorem dL_leak_4 : decode cL_leak 4 = .ok (.iload_n 2, 1) := by decide +kernel
theorem dL_leak_5 : decode cL_leak 5 = .ok (.invokevirtual 24, 3) := by decide +kernel
theorem dL_leak_8 : decode cL_leak 8 = .ok (.i2l, 1) := by decide +kernel
theorem dL_leak_9 : decode cL_leak 9 = .ok (.lastore, 1) := by decide +kernel
theorem dL_leak_10 : decode cL_leak 10 = .ok (.goto 11, 3) := by decide +kernel
theorem dL_leak_13 : decode cL_leak 13 = .ok (.astore 4, 2) := by decide +kernel
theorem dL_leak_15 : decode cL_leak 15 = .ok (.iconst 1, 1) := by decide +kernel
theorem dL_leak_16 : decode cL_leak 16 = .ok (.ireturn, 1) := by decide +kernel
theorem dL_leak_17 : decode cL_leak 17 = .ok (.astore 4, 2) := by decide +kernel
theorem dL_leak_19 : decode cL_leak 19 = .ok (.iconst 2, 1) := by decide +kernel
theorem dL_leak_20 : decode cL_leak 20 = .ok (.ireturn, 1) := by decide +kernel
theorem dL_leak_21 : decode cL_leak 21 = .ok (.iconst 0, 1) := by decide +kernel
theorem dL_leak_22 : decode cL_leak 22 = .ok (.ireturn, 1) := by decide +kernel
theorem dL_clean_0 : decode cL_clean 0 = .ok (.aload_n 2, 1) := by decide +kernel
theorem dL_clean_1 : decode cL_clean 1 = .ok (.iconst 0, 1) := by decide +kernel
theorem dL_clean_2 : decode cL_clean 2 = .ok (.aload_n 0, 1) := by decide +kernel
theorem dL_clean_3 : decode cL_clean 3 = .ok (.iload_n 1, 1) := by decide +kernel
theorem dL_clean_4 : decode cL_clean 4 = .ok (.invokevirtual 27, 3) := by decide +kernel
theorem dL_clean_7 : decode cL_clean 7 = .ok (.i2l, 1) := by decide +kernel
theorem dL_clean_8 : decode cL_clean 8 = .ok (.lastore, 1) := by decide +kernel
theorem dL_clean_9 : decode cL_clean 9 = .ok (.goto 6, 3) := by decide +kernel
theorem dL_clean_12 : decode cL_clean 12 = .ok (.astore_n 3, 1) := by decide +kernel
theorem dL_clean_13 : decode cL_clean 13 = .ok (.iconst 1, 1) := by decide +kernel
theorem dL_clean_14 : decode cL_clean 14 = .ok (.ireturn, 1) := by decide +kernel
theorem dL_clean_15 : decode cL_clean 15 = .ok (.iconst 0, 1) := by decide +kernel
theorem dL_clean_16 : decode cL_clean 16 = .ok (.ireturn, 1) := by decide +kernel
theorem dL_test_0 : decode cL_test 0 = .ok (.aload_n 2, 1) := by decide +kernel
theorem dL_test_1 : decode cL_test 1 = .ok (.iconst 0, 1) := by decide +kernel
theorem dL_test_2 : decode cL_test 2 = .ok (.aload_n 0, 1) := by decide +kernel
theorem dL_test_3 : decode cL_test 3 = .ok (.iload_n 1, 1) := by decide +kernel
theorem dL_test_4 : decode cL_test 4 = .ok (.invokevirtual 30, 3) := by decide +kernel
theorem dL_test_7 : decode cL_test 7 = .ok (.i2l, 1) := by decide +kernel
theorem dL_test_8 : decode cL_test 8 = .ok (.lastore, 1) := by decide +kernel
theorem dL_test_9 : decode cL_test 9 = .ok (.goto 6, 3) := by decide +kernel
theorem dL_test_12 : decode cL_test 12 = .ok (.astore_n 3, 1) := by decide +kernel
theorem dL_test_13 : decode cL_test 13 = .ok (.iconst 1, 1) := by decide +kernel
theorem dL_test_14 : decode cL_test 14 = .ok (.ireturn, 1) := by decide +kernel
theorem dL_test_15 : decode cL_test 15 = .ok (.iconst 0, 1) := by decide +kernel
theorem dL_test_16 : decode cL_test 16 = .ok (.ireturn, 1) := by decide +kernel
theorem dL_drop_0 : decode cL_drop 0 = .ok (.aload_n 2, 1) := by decide +kernel
theorem dL_drop_1 : decode cL_drop 1 = .ok (.iconst 0, 1) := by decide +kernel
theorem dL_drop_2 : decode cL_drop 2 = .ok (.aload_n 0, 1) := by decide +kernel
theorem dL_drop_3 : decode cL_drop 3 = .ok (.iload_n 1, 1) := by decide +kernel
theorem dL_drop_4 : decode cL_drop 4 = .ok (.invokevirtual 33, 3) := by decide +kernel
theorem dL_drop_7 : decode cL_drop 7 = .ok (.i2l, 1) := by decide +kernel
theorem dL_drop_8 : decode cL_drop 8 = .ok (.lastore, 1) := by decide +kernel
theorem dL_drop_9 : decode cL_drop 9 = .ok (.goto 6, 3) := by decide +kernel
theorem dL_drop_12 : decode cL_drop 12 = .ok (.astore_n 3, 1) := by decide +kernel
theorem dL_drop_13 : decode cL_drop 13 = .ok (.iconst 1, 1) := by decide +kernel
theorem dL_drop_14 : decode cL_drop 14 = .ok (.ireturn, 1) := by decide +kernel
theorem dL_drop_15 : decode cL_drop 15 = .ok (.iconst 0, 1) := by decide +kernel
theorem dL_drop_16 : decode cL_drop 16 = .ok (.ireturn, 1) := by decide +kernel
theorem dL_set_0 : decode cL_set 0 = .ok (.aload_n 3, 1) := by decide +kernel
theorem dL_set_1 : decode cL_set 1 = .ok (.iconst 0, 1) := by decide +kernel
theorem dL_set_2 : decode cL_set 2 = .ok (.aload_n 0, 1) := by decide +kernel
theorem dL_set_3 : decode cL_set 3 = .ok (.iload_n 1, 1) := by decide +kernel
theorem dL_set_4 : decode cL_set 4 = .ok (.iload_n 2, 1) := by decide +kernel
theorem dL_set_5 : decode cL_set 5 = .ok (.invokevirtual 36, 3) := by decide +kernel
theorem dL_set_8 : decode cL_set 8 = .ok (.i2l, 1) := by decide +kernel
theorem dL_set_9 : decode cL_set 9 = .ok (.lastore, 1) := by decide +kernel
theorem dL_set_10 : decode cL_set 10 = .ok (.goto 11, 3) := by decide +kernel
theorem dL_set_13 : decode cL_set 13 = .ok (.astore 4, 2) := by decide +kernel
theorem dL_set_15 : decode cL_set 15 = .ok (.iconst 1, 1) := by decide +kernel
theorem dL_set_16 : decode cL_set 16 = .ok (.ireturn, 1) := by decide +kernel
theorem dL_set_17 : decode cL_set 17 = .ok (.astore 4, 2) := by decide +kernel
theorem dL_set_19 : decode cL_set 19 = .ok (.iconst 2, 1) := by decide +kernel
theorem dL_set_20 : decode cL_set 20 = .ok (.ireturn, 1) := by decide +kernel
theorem dL_set_21 : decode cL_set 21 = .ok (.iconst 0, 1) := by decide +kernel
theorem dL_set_22 : decode cL_set 22 = .ok (.ireturn, 1) := by decide +kernel
theorem dL_append_0 : decode cL_append 0 = .ok (.aload_n 2, 1) := by decide +kernel
theorem dL_append_1 : decode cL_append 1 = .ok (.iconst 0, 1) := by decide +kernel
theorem dL_append_2 : decode cL_append 2 = .ok (.aload_n 0, 1) := by decide +kernel
theorem dL_append_3 : decode cL_append 3 = .ok (.iload_n 1, 1) := by decide +kernel
theorem dL_append_4 : decode cL_append 4 = .ok (.invokevirtual 39, 3) := by decide +kernel
theorem dL_append_7 : decode cL_append 7 = .ok (.i2l, 1) := by decide +kernel
theorem dL_append_8 : decode cL_append 8 = .ok (.lastore, 1) := by decide +kernel
theorem dL_append_9 : decode cL_append 9 = .ok (.goto 9, 3) := by decide +kernel
theorem dL_append_12 : decode cL_append 12 = .ok (.astore_n 3, 1) := by decide +kernel
theorem dL_append_13 : decode cL_append 13 = .ok (.iconst 1, 1) := by decide +kernel
theorem dL_append_14 : decode cL_append 14 = .ok (.ireturn, 1) := by decide +kernel
theorem dL_append_15 : decode cL_append 15 = .ok (.astore_n 3, 1) := by decide +kernel
theorem dL_append_16 : decode cL_append 16 = .ok (.iconst 2, 1) := by decide +kernel
theorem dL_append_17 : decode cL_append 17 = .ok (.ireturn, 1) := by decide +kernel
theorem dL_append_18 : decode cL_append 18 = .ok (.iconst 0, 1) := by decide +kernel
theorem dL_append_19 : decode cL_append 19 = .ok (.ireturn, 1) := by decide +kernel
theorem dL_load_0 : decode cL_load 0 = .ok (.aload_n 1, 1) := by decide +kernel
theorem dL_load_1 : decode cL_load 1 = .ok (.iconst 0, 1) := by decide +kernel
theorem dL_load_2 : decode cL_load 2 = .ok (.aload_n 0, 1) := by decide +kernel
theorem dL_load_3 : decode cL_load 3 = .ok (.invokevirtual 44, 3) := by decide +kernel
theorem dL_load_6 : decode cL_load 6 = .ok (.i2l, 1) := by decide +kernel
theorem dL_load_7 : decode cL_load 7 = .ok (.lastore, 1) := by decide +kernel
theorem dL_load_8 : decode cL_load 8 = .ok (.goto 6, 3) := by decide +kernel
theorem dL_load_11 : decode cL_load 11 = .ok (.astore_n 2, 1) := by decide +kernel
theorem dL_load_12 : decode cL_load 12 = .ok (.iconst 1, 1) := by decide +kernel
theorem dL_load_13 : decode cL_load 13 = .ok (.ireturn, 1) := by decide +kernel
theorem dL_load_14 : decode cL_load 14 = .ok (.iconst 0, 1) := by decide +kernel
theorem dL_load_15 : decode cL_load 15 = .ok (.ireturn, 1) := by decide +kernel
theorem dL_keep_0 : decode cL_keep 0 = .ok (.aload_n 2, 1) := by decide +kernel
theorem dL_keep_1 : decode cL_keep 1 = .ok (.iconst 0, 1) := by decide +kernel
theorem dL_keep_2 : decode cL_keep 2 = .ok (.aload_n 0, 1) := by decide +kernel
theorem dL_keep_3 : decode cL_keep 3 = .ok (.iload_n 1, 1) := by decide +kernel
theorem dL_keep_4 : decode cL_keep 4 = .ok (.invokevirtual 48, 3) := by decide +kernel
theorem dL_keep_7 : decode cL_keep 7 = .ok (.i2l, 1) := by decide +kernel
theorem dL_keep_8 : decode cL_keep 8 = .ok (.lastore, 1) := by decide +kernel
theorem dL_keep_9 : decode cL_keep 9 = .ok (.goto 6, 3) := by decide +kernel
theorem dL_keep_12 : decode cL_keep 12 = .ok (.astore_n 3, 1) := by decide +kernel
theorem dL_keep_13 : decode cL_keep 13 = .ok (.iconst 1, 1) := by decide +kernel
theorem dL_keep_14 : decode cL_keep 14 = .ok (.ireturn, 1) := by decide +kernel
theorem dL_keep_15 : decode cL_keep 15 = .ok (.iconst 0, 1) := by decide +kernel
theorem dL_keep_16 : decode cL_keep 16 = .ok (.ireturn, 1) := by decide +kernel
theorem dL_goBack_0 : decode cL_goBack 0 = .ok (.aload_n 2, 1) := by decide +kernel
theorem dL_goBack_1 : decode cL_goBack 1 = .ok (.iconst 0, 1) := by decide +kernel
theorem dL_goBack_2 : decode cL_goBack 2 = .ok (.aload_n 0, 1) := by decide +kernel
theorem dL_goBack_3 : decode cL_goBack 3 = .ok (.iload_n 1, 1) := by decide +kernel
theorem dL_goBack_4 : decode cL_goBack 4 = .ok (.invokevirtual 51, 3) := by decide +kernel
theorem dL_goBack_7 : decode cL_goBack 7 = .ok (.i2l, 1) := by decide +kernel
theorem dL_goBack_8 : decode cL_goBack 8 = .ok (.lastore, 1) := by decide +kernel
theorem dL_goBack_9 : decode cL_goBack 9 = .ok (.goto 9, 3) := by decide +kernel
theorem dL_goBack_12 : decode cL_goBack 12 = .ok (.astore_n 3, 1) := by decide +kernel
theorem dL_goBack_13 : decode cL_goBack 13 = .ok (.iconst 1, 1) := by decide +kernel
theorem dL_goBack_14 : decode cL_goBack 14 = .ok (.ireturn, 1) := by decide +kernel
theorem dL_goBack_15 : decode cL_goBack 15 = .ok (.astore_n 3, 1) := by decide +kernel
theorem dL_goBack_16 : decode cL_goBack 16 = .ok (.iconst 2, 1) := by decide +kernel
theorem dL_goBack_17 : decode cL_goBack 17 = .ok (.ireturn, 1) := by decide +kernel
theorem dL_goBack_18 : decode cL_goBack 18 = .ok (.iconst 0, 1) := by decide +kernel
theorem dL_goBack_19 : decode cL_goBack 19 = .ok (.ireturn, 1) := by decide +kernel
theorem dL_undo_0 : decode cL_undo 0 = .ok (.aload_n 1, 1) := by decide +kernel
theorem dL_undo_1 : decode cL_undo 1 = .ok (.iconst 0, 1) := by decide +kernel
theorem dL_undo_2 : decode cL_undo 2 = .ok (.aload_n 0, 1) := by decide +kernel
theorem dL_undo_3 : decode cL_undo 3 = .ok (.invokevirtual 54, 3) := by decide +kernel
theorem dL_undo_6 : decode cL_undo 6 = .ok (.i2l, 1) := by decide +kernel
theorem dL_undo_7 : decode cL_undo 7 = .ok (.lastore, 1) := by decide +kernel
theorem dL_undo_8 : decode cL_undo 8 = .ok (.goto 6, 3) := by decide +kernel
theorem dL_undo_11 : decode cL_undo 11 = .ok (.astore_n 2, 1) := by decide +kernel
theorem dL_undo_12 : decode cL_undo 12 = .ok (.iconst 1, 1) := by decide +kernel
theorem dL_undo_13 : decode cL_undo 13 = .ok (.ireturn, 1) := by decide +kernel
theorem dL_undo_14 : decode cL_undo 14 = .ok (.iconst 0, 1) := by decide +kernel
theorem dL_undo_15 : decode cL_undo 15 = .ok (.ireturn, 1) := by decide +kernel
theorem dL_hole_0 : decode cL_hole 0 = .ok (.aload_n 3, 1) := by decide +kernel
theorem dL_hole_1 : decode cL_hole 1 = .ok (.iconst 0, 1) := by decide +kernel
theorem dL_hole_2 : decode cL_hole 2 = .ok (.aload_n 0, 1) := by decide +kernel
theorem dL_hole_3 : decode cL_hole 3 = .ok (.iload_n 1, 1) := by decide +kernel
theorem dL_hole_4 : decode cL_hole 4 = .ok (.iload_n 2, 1) := by decide +kernel
theorem dL_hole_5 : decode cL_hole 5 = .ok (.invokevirtual 57, 3) := by decide +kernel
theorem dL_hole_8 : decode cL_hole 8 = .ok (.i2l, 1) := by decide +kernel
theorem dL_hole_9 : decode cL_hole 9 = .ok (.lastore, 1) := by decide +kernel
theorem dL_hole_10 : decode cL_hole 10 = .ok (.goto 11, 3) := by decide +kernel
theorem dL_hole_13 : decode cL_hole 13 = .ok (.astore 4, 2) := by decide +kernel
theorem dL_hole_15 : decode cL_hole 15 = .ok (.iconst 1, 1) := by decide +kernel
theorem dL_hole_16 : decode cL_hole 16 = .ok (.ireturn, 1) := by decide +kernel
theorem dL_hole_17 : decode cL_hole 17 = .ok (.astore 4, 2) := by decide +kernel
theorem dL_hole_19 : decode cL_hole 19 = .ok (.iconst 2, 1) := by decide +kernel
theorem dL_hole_20 : decode cL_hole 20 = .ok (.ireturn, 1) := by decide +kernel
theorem dL_hole_21 : decode cL_hole 21 = .ok (.iconst 0, 1) := by decide +kernel
theorem dL_hole_22 : decode cL_hole 22 = .ok (.ireturn, 1) := by decide +kernel
theorem dL_reading_0 : decode cL_reading 0 = .ok (.aload_n 3, 1) := by decide +kernel
theorem dL_reading_1 : decode cL_reading 1 = .ok (.iconst 0, 1) := by decide +kernel
theorem dL_reading_2 : decode cL_reading 2 = .ok (.aload_n 0, 1) := by decide +kernel
theorem dL_reading_3 : decode cL_reading 3 = .ok (.iload_n 1, 1) := by decide +kernel
theorem dL_reading_4 : decode cL_reading 4 = .ok (.iload_n 2, 1) := by decide +kernel
theorem dL_reading_5 : decode cL_reading 5 = .ok (.invokevirtual 60, 3) := by decide +kernel
theorem dL_reading_8 : decode cL_reading 8 = .ok (.i2l, 1) := by decide +kernel
theorem dL_reading_9 : decode cL_reading 9 = .ok (.lastore, 1) := by decide +kernel
theorem dL_reading_10 : decode cL_reading 10 = .ok (.goto 11, 3) := by decide +kernel
theorem dL_reading_13 : decode cL_reading 13 = .ok (.astore 4, 2) := by decide +kernel
theorem dL_reading_15 : decode cL_reading 15 = .ok (.iconst 1, 1) := by decide +kernel
theorem dL_reading_16 : decode cL_reading 16 = .ok (.ireturn, 1) := by decide +kernel
theorem dL_reading_17 : decode cL_reading 17 = .ok (.astore 4, 2) := by decide +kernel
theorem dL_reading_19 : decode cL_reading 19 = .ok (.iconst 2, 1) := by decide +kernel
theorem dL_reading_20 : decode cL_reading 20 = .ok (.ireturn, 1) := by decide +kernel
theorem dL_reading_21 : decode cL_reading 21 = .ok (.iconst 0, 1) := by decide +kernel
theorem dL_reading_22 : decode cL_reading 22 = .ok (.ireturn, 1) := by decide +kernel
theorem dL_flow_0 : decode cL_flow 0 = .ok (.aload_n 2, 1) := by decide +kernel
theorem dL_flow_1 : decode cL_flow 1 = .ok (.iconst 0, 1) := by decide +kernel
theorem dL_flow_2 : decode cL_flow 2 = .ok (.aload_n 0, 1) := by decide +kernel
theorem dL_flow_3 : decode cL_flow 3 = .ok (.iload_n 1, 1) := by decide +kernel
theorem dL_flow_4 : decode cL_flow 4 = .ok (.invokevirtual 63, 3) := by decide +kernel
theorem dL_flow_7 : decode cL_flow 7 = .ok (.i2l, 1) := by decide +kernel
theorem dL_flow_8 : decode cL_flow 8 = .ok (.lastore, 1) := by decide +kernel
theorem dL_flow_9 : decode cL_flow 9 = .ok (.goto 6, 3) := by decide +kernel
theorem dL_flow_12 : decode cL_flow 12 = .ok (.astore_n 3, 1) := by decide +kernel
theorem dL_flow_13 : decode cL_flow 13 = .ok (.iconst 1, 1) := by decide +kernel
theorem dL_flow_14 : decode cL_flow 14 = .ok (.ireturn, 1) := by decide +kernel
theorem dL_flow_15 : decode cL_flow 15 = .ok (.iconst 0, 1) := by decide +kernel
theorem dL_flow_16 : decode cL_flow 16 = .ok (.ireturn, 1) := by decide +kernel
theorem dL_count_0 : decode cL_count 0 = .ok (.aload_n 2, 1) := by decide +kernel
theorem dL_count_1 : decode cL_count 1 = .ok (.iconst 0, 1) := by decide +kernel
theorem dL_count_2 : decode cL_count 2 = .ok (.aload_n 0, 1) := by decide +kernel
theorem dL_count_3 : decode cL_count 3 = .ok (.iload_n 1, 1) := by decide +kernel
theorem dL_count_4 : decode cL_count 4 = .ok (.invokevirtual 66, 3) := by decide +kernel
theorem dL_count_7 : decode cL_count 7 = .ok (.i2l, 1) := by decide +kernel
theorem dL_count_8 : decode cL_count 8 = .ok (.lastore, 1) := by decide +kernel
theorem dL_count_9 : decode cL_count 9 = .ok (.goto 6, 3) := by decide +kernel
theorem dL_count_12 : decode cL_count 12 = .ok (.astore_n 3, 1) := by decide +kernel
theorem dL_count_13 : decode cL_count 13 = .ok (.iconst 1, 1) := by decide +kernel
theorem dL_count_14 : decode cL_count 14 = .ok (.ireturn, 1) := by decide +kernel
theorem dL_count_15 : decode cL_count 15 = .ok (.iconst 0, 1) := by decide +kernel
theorem dL_count_16 : decode cL_count 16 = .ok (.ireturn, 1) := by decide +kernel
theorem dL_setting_0 : decode cL_setting 0 = .ok (.aload_n 2, 1) := by decide +kernel
theorem dL_setting_1 : decode cL_setting 1 = .ok (.iconst 0, 1) := by decide +kernel
theorem dL_setting_2 : decode cL_setting 2 = .ok (.aload_n 0, 1) := by decide +kernel
theorem dL_setting_3 : decode cL_setting 3 = .ok (.iload_n 1, 1) := by decide +kernel
theorem dL_setting_4 : decode cL_setting 4 = .ok (.invokevirtual 69, 3) := by decide +kernel
theorem dL_setting_7 : decode cL_setting 7 = .ok (.i2l, 1) := by decide +kernel
theorem dL_setting_8 : decode cL_setting 8 = .ok (.lastore, 1) := by decide +kernel
theorem dL_setting_9 : decode cL_setting 9 = .ok (.goto 6, 3) := by decide +kernel
theorem dL_setting_12 : decode cL_setting 12 = .ok (.astore_n 3, 1) := by decide +kernel
theorem dL_setting_13 : decode cL_setting 13 = .ok (.iconst 1, 1) := by decide +kernel
theorem dL_setting_14 : decode cL_setting 14 = .ok (.ireturn, 1) := by decide +kernel
theorem dL_setting_15 : decode cL_setting 15 = .ok (.iconst 0, 1) := by decide +kernel
theorem dL_setting_16 : decode cL_setting 16 = .ok (.ireturn, 1) := by decide +kernel
theorem dL_ifRight_0 : decode cL_ifRight 0 = .ok (.aload_n 2, 1) := by decide +kernel
theorem dL_ifRight_1 : decode cL_ifRight 1 = .ok (.iconst 0, 1) := by decide +kernel
theorem dL_ifRight_2 : decode cL_ifRight 2 = .ok (.aload_n 0, 1) := by decide +kernel
theorem dL_ifRight_3 : decode cL_ifRight 3 = .ok (.iload_n 1, 1) := by decide +kernel
theorem dL_ifRight_4 : decode cL_ifRight 4 = .ok (.invokevirtual 72, 3) := by decide +kernel
theorem dL_ifRight_7 : decode cL_ifRight 7 = .ok (.i2l, 1) := by decide +kernel
theorem dL_ifRight_8 : decode cL_ifRight 8 = .ok (.lastore, 1) := by decide +kernel
theorem dL_ifRight_9 : decode cL_ifRight 9 = .ok (.goto 6, 3) := by decide +kernel
theorem dL_ifRight_12 : decode cL_ifRight 12 = .ok (.astore_n 3, 1) := by decide +kernel
theorem dL_ifRight_13 : decode cL_ifRight 13 = .ok (.iconst 1, 1) := by decide +kernel
theorem dL_ifRight_14 : decode cL_ifRight 14 = .ok (.ireturn, 1) := by decide +kernel
theorem dL_ifRight_15 : decode cL_ifRight 15 = .ok (.iconst 0, 1) := by decide +kernel
theorem dL_ifRight_16 : decode cL_ifRight 16 = .ok (.ireturn, 1) := by decide +kernel
theorem dL_ifRake_0 : decode cL_ifRake 0 = .ok (.aload_n 2, 1) := by decide +kernel
theorem dL_ifRake_1 : decode cL_ifRake 1 = .ok (.iconst 0, 1) := by decide +kernel
theorem dL_ifRake_2 : decode cL_ifRake 2 = .ok (.aload_n 0, 1) := by decide +kernel
theorem dL_ifRake_3 : decode cL_ifRake 3 = .ok (.iload_n 1, 1) := by decide +kernel
theorem dL_ifRake_4 : decode cL_ifRake 4 = .ok (.invokevirtual 75, 3) := by decide +kernel
theorem dL_ifRake_7 : decode cL_ifRake 7 = .ok (.i2l, 1) := by decide +kernel
theorem dL_ifRake_8 : decode cL_ifRake 8 = .ok (.lastore, 1) := by decide +kernel
theorem dL_ifRake_9 : decode cL_ifRake 9 = .ok (.goto 6, 3) := by decide +kernel
theorem dL_ifRake_12 : decode cL_ifRake 12 = .ok (.astore_n 3, 1) := by decide +kernel
theorem dL_ifRake_13 : decode cL_ifRake 13 = .ok (.iconst 1, 1) := by decide +kernel
theorem dL_ifRake_14 : decode cL_ifRake 14 = .ok (.ireturn, 1) := by decide +kernel
theorem dL_ifRake_15 : decode cL_ifRake 15 = .ok (.iconst 0, 1) := by decide +kernel
theorem dL_ifRake_16 : decode cL_ifRake 16 = .ok (.ireturn, 1) := by decide +kernel
theorem dL_fineRake_0 : decode cL_fineRake 0 = .ok (.aload_n 2, 1) := by decide +kernel
theorem dL_fineRake_1 : decode cL_fineRake 1 = .ok (.iconst 0, 1) := by decide +kernel
theorem dL_fineRake_2 : decode cL_fineRake 2 = .ok (.aload_n 0, 1) := by decide +kernel
theorem dL_fineRake_3 : decode cL_fineRake 3 = .ok (.iload_n 1, 1) := by decide +kernel
theorem dL_fineRake_4 : decode cL_fineRake 4 = .ok (.invokevirtual 78, 3) := by decide +kernel
theorem dL_fineRake_7 : decode cL_fineRake 7 = .ok (.i2l, 1) := by decide +kernel
theorem dL_fineRake_8 : decode cL_fineRake 8 = .ok (.lastore, 1) := by decide +kernel
theorem dL_fineRake_9 : decode cL_fineRake 9 = .ok (.goto 6, 3) := by decide +kernel
theorem dL_fineRake_12 : decode cL_fineRake 12 = .ok (.astore_n 3, 1) := by decide +kernel
theorem dL_fineRake_13 : decode cL_fineRake 13 = .ok (.iconst 1, 1) := by decide +kernel
theorem dL_fineRake_14 : decode cL_fineRake 14 = .ok (.ireturn, 1) := by decide +kernel
theorem dL_fineRake_15 : decode cL_fineRake 15 = .ok (.iconst 0, 1) := by decide +kernel
theorem dL_fineRake_16 : decode cL_fineRake 16 = .ok (.ireturn, 1) := by decide +kernel
theorem dL_law_0 : decode cL_law 0 = .ok (.new 8, 3) := by decide +kernel
theorem dL_law_3 : decode cL_law 3 = .ok (.dup, 1) := by decide +kernel
theorem dL_law_4 : decode cL_law 4 = .ok (.invokespecial 81, 3) := by decide +kernel
theorem dL_law_7 : decode cL_law 7 = .ok (.astore_n 1, 1) := by decide +kernel
theorem dL_law_8 : decode cL_law 8 = .ok (.new 82, 3) := by decide +kernel
theorem dL_law_11 : decode cL_law 11 = .ok (.dup, 1) := by decide +kernel
theorem dL_law_12 : decode cL_law 12 = .ok (.invokespecial 84, 3) := by decide +kernel
theorem dL_law_15 : decode cL_law 15 = .ok (.astore_n 2, 1) := by decide +kernel
theorem dL_law_16 : decode cL_law 16 = .ok (.iconst 1, 1) := by decide +kernel
theorem dL_law_17 : decode cL_law 17 = .ok (.newarray .long, 2) := by decide +kernel
theorem dL_law_19 : decode cL_law 19 = .ok (.astore_n 3, 1) := by decide +kernel
theorem dL_law_20 : decode cL_law 20 = .ok (.iconst 0, 1) := by decide +kernel
theorem dL_law_21 : decode cL_law 21 = .ok (.istore 4, 2) := by decide +kernel
theorem dL_law_23 : decode cL_law 23 = .ok (.iload 4, 2) := by decide +kernel
theorem dL_law_25 : decode cL_law 25 = .ok (.aload_n 0, 1) := by decide +kernel
theorem dL_law_26 : decode cL_law 26 = .ok (.arraylength, 1) := by decide +kernel
theorem dL_law_27 : decode cL_law 27 = .ok (.iconst 3, 1) := by decide +kernel
theorem dL_law_28 : decode cL_law 28 = .ok (.isub, 1) := by decide +kernel
theorem dL_law_29 : decode cL_law 29 = .ok (.if_icmp .gt 1456, 3) := by decide +kernel
theorem dL_law_32 : decode cL_law 32 = .ok (.aload_n 0, 1) := by decide +kernel
theorem dL_law_33 : decode cL_law 33 = .ok (.iload 4, 2) := by decide +kernel
theorem dL_law_35 : decode cL_law 35 = .ok (.iaload, 1) := by decide +kernel
theorem dL_law_36 : decode cL_law 36 = .ok (.bipush 31, 2) := by decide +kernel
theorem dL_law_38 : decode cL_law 38 = .ok (.iand, 1) := by decide +kernel
theorem dL_law_39 : decode cL_law 39 = .ok (.tableswitch 1440 0 26 #[121, 177, 233, 301, 369, 425, 481, 494, 550, 618, 674, 687, 700, 744, 800, 856, 900, 968, 1036, 1092, 1148, 1204, 1260, 1273, 1329, 1385, 1426], 121) := by decide +kernel
theorem dL_law_160 : decode cL_law 160 = .ok (.aload_n 1, 1) := by decide +kernel
theorem dL_law_161 : decode cL_law 161 = .ok (.aload_n 0, 1) := by decide +kernel
theorem dL_law_162 : decode cL_law 162 = .ok (.iload 4, 2) := by decide +kernel
theorem dL_law_164 : decode cL_law 164 = .ok (.iconst 1, 1) := by decide +kernel
theorem dL_law_165 : decode cL_law 165 = .ok (.iadd, 1) := by decide +kernel
theorem dL_law_166 : decode cL_law 166 = .ok (.iaload, 1) := by decide +kernel
theorem dL_law_167 : decode cL_law 167 = .ok (.aload_n 3, 1) := by decide +kernel
theorem dL_law_168 : decode cL_law 168 = .ok (.invokestatic 85, 3) := by decide +kernel
theorem dL_law_171 : decode cL_law 171 = .ok (.istore 5, 2) := by decide +kernel
theorem dL_law_173 : decode cL_law 173 = .ok (.aload_n 2, 1) := by decide +kernel
theorem dL_law_174 : decode cL_law 174 = .ok (.aload_n 0, 1) := by decide +kernel
theorem dL_law_175 : decode cL_law 175 = .ok (.iload 4, 2) := by decide +kernel
theorem dL_law_177 : decode cL_law 177 = .ok (.iconst 1, 1) := by decide +kernel
theorem dL_law_178 : decode cL_law 178 = .ok (.iadd, 1) := by decide +kernel
theorem dL_law_179 : decode cL_law 179 = .ok (.iaload, 1) := by decide +kernel
theorem dL_law_180 : decode cL_law 180 = .ok (.invokevirtual 90, 3) := by decide +kernel
theorem dL_law_183 : decode cL_law 183 = .ok (.istore 6, 2) := by decide +kernel
theorem dL_law_185 : decode cL_law 185 = .ok (.aload_n 2, 1) := by decide +kernel
theorem dL_law_186 : decode cL_law 186 = .ok (.invokevirtual 91, 3) := by decide +kernel
theorem dL_law_189 : decode cL_law 189 = .ok (.iload 5, 2) := by decide +kernel
theorem dL_law_191 : decode cL_law 191 = .ok (.if_icmp .eq 5, 3) := by decide +kernel
theorem dL_law_194 : decode cL_law 194 = .ok (.iconst 0, 1) := by decide +kernel
theorem dL_law_195 : decode cL_law 195 = .ok (.ireturn, 1) := by decide +kernel
theorem dL_law_196 : decode cL_law 196 = .ok (.iload 5, 2) := by decide +kernel
theorem dL_law_198 : decode cL_law 198 = .ok (.ifCond .ne 15, 3) := by decide +kernel
theorem dL_law_201 : decode cL_law 201 = .ok (.aload_n 3, 1) := by decide +kernel
theorem dL_law_202 : decode cL_law 202 = .ok (.iconst 0, 1) := by decide +kernel
theorem dL_law_203 : decode cL_law 203 = .ok (.laload, 1) := by decide +kernel
theorem dL_law_204 : decode cL_law 204 = .ok (.iload 6, 2) := by decide +kernel
theorem dL_law_206 : decode cL_law 206 = .ok (.i2l, 1) := by decide +kernel
theorem dL_law_207 : decode cL_law 207 = .ok (.lcmp, 1) := by decide +kernel
theorem dL_law_208 : decode cL_law 208 = .ok (.ifCond .eq 5, 3) := by decide +kernel
theorem dL_law_211 : decode cL_law 211 = .ok (.iconst 0, 1) := by decide +kernel
theorem dL_law_212 : decode cL_law 212 = .ok (.ireturn, 1) := by decide +kernel
theorem dL_law_213 : decode cL_law 213 = .ok (.goto 1266, 3) := by decide +kernel
theorem dL_law_216 : decode cL_law 216 = .ok (.aload_n 1, 1) := by decide +kernel
theorem dL_law_217 : decode cL_law 217 = .ok (.aload_n 0, 1) := by decide +kernel
theorem dL_law_218 : decode cL_law 218 = .ok (.iload 4, 2) := by decide +kernel
theorem dL_law_220 : decode cL_law 220 = .ok (.iconst 1, 1) := by decide +kernel
theorem dL_law_221 : decode cL_law 221 = .ok (.iadd, 1) := by decide +kernel
theorem dL_law_222 : decode cL_law 222 = .ok (.iaload, 1) := by decide +kernel
theorem dL_law_223 : decode cL_law 223 = .ok (.aload_n 3, 1) := by decide +kernel
theorem dL_law_224 : decode cL_law 224 = .ok (.invokestatic 94, 3) := by decide +kernel
theorem dL_law_227 : decode cL_law 227 = .ok (.istore 5, 2) := by decide +kernel
theorem dL_law_229 : decode cL_law 229 = .ok (.aload_n 2, 1) := by decide +kernel
theorem dL_law_230 : decode cL_law 230 = .ok (.aload_n 0, 1) := by decide +kernel
theorem dL_law_231 : decode cL_law 231 = .ok (.iload 4, 2) := by decide +kernel
theorem dL_law_233 : decode cL_law 233 = .ok (.iconst 1, 1) := by decide +kernel
theorem dL_law_234 : decode cL_law 234 = .ok (.iadd, 1) := by decide +kernel
theorem dL_law_235 : decode cL_law 235 = .ok (.iaload, 1) := by decide +kernel
theorem dL_law_236 : decode cL_law 236 = .ok (.invokevirtual 96, 3) := by decide +kernel
theorem dL_law_239 : decode cL_law 239 = .ok (.istore 6, 2) := by decide +kernel
theorem dL_law_241 : decode cL_law 241 = .ok (.aload_n 2, 1) := by decide +kernel
theorem dL_law_242 : decode cL_law 242 = .ok (.invokevirtual 91, 3) := by decide +kernel
theorem dL_law_245 : decode cL_law 245 = .ok (.iload 5, 2) := by decide +kernel
theorem dL_law_247 : decode cL_law 247 = .ok (.if_icmp .eq 5, 3) := by decide +kernel
theorem dL_law_250 : decode cL_law 250 = .ok (.iconst 0, 1) := by decide +kernel
theorem dL_law_251 : decode cL_law 251 = .ok (.ireturn, 1) := by decide +kernel
theorem dL_law_252 : decode cL_law 252 = .ok (.iload 5, 2) := by decide +kernel
theorem dL_law_254 : decode cL_law 254 = .ok (.ifCond .ne 15, 3) := by decide +kernel
theorem dL_law_257 : decode cL_law 257 = .ok (.aload_n 3, 1) := by decide +kernel
theorem dL_law_258 : decode cL_law 258 = .ok (.iconst 0, 1) := by decide +kernel
theorem dL_law_259 : decode cL_law 259 = .ok (.laload, 1) := by decide +kernel
theorem dL_law_260 : decode cL_law 260 = .ok (.iload 6, 2) := by decide +kernel
theorem dL_law_262 : decode cL_law 262 = .ok (.i2l, 1) := by decide +kernel
theorem dL_law_263 : decode cL_law 263 = .ok (.lcmp, 1) := by decide +kernel
theorem dL_law_264 : decode cL_law 264 = .ok (.ifCond .eq 5, 3) := by decide +kernel
theorem dL_law_267 : decode cL_law 267 = .ok (.iconst 0, 1) := by decide +kernel
theorem dL_law_268 : decode cL_law 268 = .ok (.ireturn, 1) := by decide +kernel
theorem dL_law_269 : decode cL_law 269 = .ok (.goto 1210, 3) := by decide +kernel
theorem dL_law_272 : decode cL_law 272 = .ok (.aload_n 1, 1) := by decide +kernel
theorem dL_law_273 : decode cL_law 273 = .ok (.aload_n 0, 1) := by decide +kernel
theorem dL_law_274 : decode cL_law 274 = .ok (.iload 4, 2) := by decide +kernel
theorem dL_law_276 : decode cL_law 276 = .ok (.iconst 1, 1) := by decide +kernel
theorem dL_law_277 : decode cL_law 277 = .ok (.iadd, 1) := by decide +kernel
theorem dL_law_278 : decode cL_law 278 = .ok (.iaload, 1) := by decide +kernel
theorem dL_law_279 : decode cL_law 279 = .ok (.aload_n 0, 1) := by decide +kernel
theorem dL_law_280 : decode cL_law 280 = .ok (.iload 4, 2) := by decide +kernel
theorem dL_law_282 : decode cL_law 282 = .ok (.iconst 2, 1) := by decide +kernel
theorem dL_law_283 : decode cL_law 283 = .ok (.iadd, 1) := by decide +kernel
theorem dL_law_284 : decode cL_law 284 = .ok (.iaload, 1) := by decide +kernel
theorem dL_law_285 : decode cL_law 285 = .ok (.aload_n 3, 1) := by decide +kernel
theorem dL_law_286 : decode cL_law 286 = .ok (.invokestatic 97, 3) := by decide +kernel
theorem dL_law_289 : decode cL_law 289 = .ok (.istore 5, 2) := by decide +kernel
theorem dL_law_291 : decode cL_law 291 = .ok (.aload_n 2, 1) := by decide +kernel
theorem dL_law_292 : decode cL_law 292 = .ok (.aload_n 0, 1) := by decide +kernel
theorem dL_law_293 : decode cL_law 293 = .ok (.iload 4, 2) := by decide +kernel
theorem dL_law_295 : decode cL_law 295 = .ok (.iconst 1, 1) := by decide +kernel
theorem dL_law_296 : decode cL_law 296 = .ok (.iadd, 1) := by decide +kernel
theorem dL_law_297 : decode cL_law 297 = .ok (.iaload, 1) := by decide +kernel
theorem dL_law_298 : decode cL_law 298 = .ok (.aload_n 0, 1) := by decide +kernel
theorem dL_law_299 : decode cL_law 299 = .ok (.iload 4, 2) := by decide +kernel
theorem dL_law_301 : decode cL_law 301 = .ok (.iconst 2, 1) := by decide +kernel
theorem dL_law_302 : decode cL_law 302 = .ok (.iadd, 1) := by decide +kernel
theorem dL_law_303 : decode cL_law 303 = .ok (.iaload, 1) := by decide +kernel
theorem dL_law_304 : decode cL_law 304 = .ok (.invokevirtual 100, 3) := by decide +kernel
theorem dL_law_307 : decode cL_law 307 = .ok (.istore 6, 2) := by decide +kernel
theorem dL_law_309 : decode cL_law 309 = .ok (.aload_n 2, 1) := by decide +kernel
theorem dL_law_310 : decode cL_law 310 = .ok (.invokevirtual 91, 3) := by decide +kernel
theorem dL_law_313 : decode cL_law 313 = .ok (.iload 5, 2) := by decide +kernel
theorem dL_law_315 : decode cL_law 315 = .ok (.if_icmp .eq 5, 3) := by decide +kernel
theorem dL_law_318 : decode cL_law 318 = .ok (.iconst 0, 1) := by decide +kernel
theorem dL_law_319 : decode cL_law 319 = .ok (.ireturn, 1) := by decide +kernel
theorem dL_law_320 : decode cL_law 320 = .ok (.iload 5, 2) := by decide +kernel
theorem dL_law_322 : decode cL_law 322 = .ok (.ifCond .ne 15, 3) := by decide +kernel
theorem dL_law_325 : decode cL_law 325 = .ok (.aload_n 3, 1) := by decide +kernel
theorem dL_law_326 : decode cL_law 326 = .ok (.iconst 0, 1) := by decide +kernel
theorem dL_law_327 : decode cL_law 327 = .ok (.laload, 1) := by decide +kernel
theorem dL_law_328 : decode cL_law 328 = .ok (.iload 6, 2) := by decide +kernel
theorem dL_law_330 : decode cL_law 330 = .ok (.i2l, 1) := by decide +kernel
theorem dL_law_331 : decode cL_law 331 = .ok (.lcmp, 1) := by decide +kernel
theorem dL_law_332 : decode cL_law 332 = .ok (.ifCond .eq 5, 3) := by decide +kernel
theorem dL_law_335 : decode cL_law 335 = .ok (.iconst 0, 1) := by decide +kernel
theorem dL_law_336 : decode cL_law 336 = .ok (.ireturn, 1) := by decide +kernel
theorem dL_law_337 : decode cL_law 337 = .ok (.goto 1142, 3) := by decide +kernel
theorem dL_law_340 : decode cL_law 340 = .ok (.aload_n 1, 1) := by decide +kernel
theorem dL_law_341 : decode cL_law 341 = .ok (.aload_n 0, 1) := by decide +kernel
theorem dL_law_342 : decode cL_law 342 = .ok (.iload 4, 2) := by decide +kernel
theorem dL_law_344 : decode cL_law 344 = .ok (.iconst 1, 1) := by decide +kernel
theorem dL_law_345 : decode cL_law 345 = .ok (.iadd, 1) := by decide +kernel
theorem dL_law_346 : decode cL_law 346 = .ok (.iaload, 1) := by decide +kernel
theorem dL_law_347 : decode cL_law 347 = .ok (.aload_n 0, 1) := by decide +kernel
theorem dL_law_348 : decode cL_law 348 = .ok (.iload 4, 2) := by decide +kernel
theorem dL_law_350 : decode cL_law 350 = .ok (.iconst 2, 1) := by decide +kernel
theorem dL_law_351 : decode cL_law 351 = .ok (.iadd, 1) := by decide +kernel
theorem dL_law_352 : decode cL_law 352 = .ok (.iaload, 1) := by decide +kernel
theorem dL_law_353 : decode cL_law 353 = .ok (.aload_n 3, 1) := by decide +kernel
theorem dL_law_354 : decode cL_law 354 = .ok (.invokestatic 101, 3) := by decide +kernel
theorem dL_law_357 : decode cL_law 357 = .ok (.istore 5, 2) := by decide +kernel
theorem dL_law_359 : decode cL_law 359 = .ok (.aload_n 2, 1) := by decide +kernel
theorem dL_law_360 : decode cL_law 360 = .ok (.aload_n 0, 1) := by decide +kernel
theorem dL_law_361 : decode cL_law 361 = .ok (.iload 4, 2) := by decide +kernel
theorem dL_law_363 : decode cL_law 363 = .ok (.iconst 1, 1) := by decide +kernel
theorem dL_law_364 : decode cL_law 364 = .ok (.iadd, 1) := by decide +kernel
theorem dL_law_365 : decode cL_law 365 = .ok (.iaload, 1) := by decide +kernel
theorem dL_law_366 : decode cL_law 366 = .ok (.aload_n 0, 1) := by decide +kernel
theorem dL_law_367 : decode cL_law 367 = .ok (.iload 4, 2) := by decide +kernel
theorem dL_law_369 : decode cL_law 369 = .ok (.iconst 2, 1) := by decide +kernel
theorem dL_law_370 : decode cL_law 370 = .ok (.iadd, 1) := by decide +kernel
theorem dL_law_371 : decode cL_law 371 = .ok (.iaload, 1) := by decide +kernel
theorem dL_law_372 : decode cL_law 372 = .ok (.invokevirtual 103, 3) := by decide +kernel
theorem dL_law_375 : decode cL_law 375 = .ok (.istore 6, 2) := by decide +kernel
theorem dL_law_377 : decode cL_law 377 = .ok (.aload_n 2, 1) := by decide +kernel
theorem dL_law_378 : decode cL_law 378 = .ok (.invokevirtual 91, 3) := by decide +kernel
theorem dL_law_381 : decode cL_law 381 = .ok (.iload 5, 2) := by decide +kernel
theorem dL_law_383 : decode cL_law 383 = .ok (.if_icmp .eq 5, 3) := by decide +kernel
theorem dL_law_386 : decode cL_law 386 = .ok (.iconst 0, 1) := by decide +kernel
theorem dL_law_387 : decode cL_law 387 = .ok (.ireturn, 1) := by decide +kernel
theorem dL_law_388 : decode cL_law 388 = .ok (.iload 5, 2) := by decide +kernel
theorem dL_law_390 : decode cL_law 390 = .ok (.ifCond .ne 15, 3) := by decide +kernel
theorem dL_law_393 : decode cL_law 393 = .ok (.aload_n 3, 1) := by decide +kernel
theorem dL_law_394 : decode cL_law 394 = .ok (.iconst 0, 1) := by decide +kernel
theorem dL_law_395 : decode cL_law 395 = .ok (.laload, 1) := by decide +kernel
theorem dL_law_396 : decode cL_law 396 = .ok (.iload 6, 2) := by decide +kernel
theorem dL_law_398 : decode cL_law 398 = .ok (.i2l, 1) := by decide +kernel
theorem dL_law_399 : decode cL_law 399 = .ok (.lcmp, 1) := by decide +kernel
theorem dL_law_400 : decode cL_law 400 = .ok (.ifCond .eq 5, 3) := by decide +kernel
theorem dL_law_403 : decode cL_law 403 = .ok (.iconst 0, 1) := by decide +kernel
theorem dL_law_404 : decode cL_law 404 = .ok (.ireturn, 1) := by decide +kernel
theorem dL_law_405 : decode cL_law 405 = .ok (.goto 1074, 3) := by decide +kernel
theorem dL_law_408 : decode cL_law 408 = .ok (.aload_n 1, 1) := by decide +kernel
theorem dL_law_409 : decode cL_law 409 = .ok (.aload_n 0, 1) := by decide +kernel
theorem dL_law_410 : decode cL_law 410 = .ok (.iload 4, 2) := by decide +kernel
theorem dL_law_412 : decode cL_law 412 = .ok (.iconst 1, 1) := by decide +kernel
theorem dL_law_413 : decode cL_law 413 = .ok (.iadd, 1) := by decide +kernel
theorem dL_law_414 : decode cL_law 414 = .ok (.iaload, 1) := by decide +kernel
theorem dL_law_415 : decode cL_law 415 = .ok (.aload_n 3, 1) := by decide +kernel
theorem dL_law_416 : decode cL_law 416 = .ok (.invokestatic 104, 3) := by decide +kernel
theorem dL_law_419 : decode cL_law 419 = .ok (.istore 5, 2) := by decide +kernel
theorem dL_law_421 : decode cL_law 421 = .ok (.aload_n 2, 1) := by decide +kernel
theorem dL_law_422 : decode cL_law 422 = .ok (.aload_n 0, 1) := by decide +kernel
theorem dL_law_423 : decode cL_law 423 = .ok (.iload 4, 2) := by decide +kernel
theorem dL_law_425 : decode cL_law 425 = .ok (.iconst 1, 1) := by decide +kernel
theorem dL_law_426 : decode cL_law 426 = .ok (.iadd, 1) := by decide +kernel
theorem dL_law_427 : decode cL_law 427 = .ok (.iaload, 1) := by decide +kernel
theorem dL_law_428 : decode cL_law 428 = .ok (.invokevirtual 106, 3) := by decide +kernel
theorem dL_law_431 : decode cL_law 431 = .ok (.istore 6, 2) := by decide +kernel
theorem dL_law_433 : decode cL_law 433 = .ok (.aload_n 2, 1) := by decide +kernel
theorem dL_law_434 : decode cL_law 434 = .ok (.invokevirtual 91, 3) := by decide +kernel
theorem dL_law_437 : decode cL_law 437 = .ok (.iload 5, 2) := by decide +kernel
theorem dL_law_439 : decode cL_law 439 = .ok (.if_icmp .eq 5, 3) := by decide +kernel
theorem dL_law_442 : decode cL_law 442 = .ok (.iconst 0, 1) := by decide +kernel
theorem dL_law_443 : decode cL_law 443 = .ok (.ireturn, 1) := by decide +kernel
theorem dL_law_444 : decode cL_law 444 = .ok (.iload 5, 2) := by decide +kernel
theorem dL_law_446 : decode cL_law 446 = .ok (.ifCond .ne 15, 3) := by decide +kernel
theorem dL_law_449 : decode cL_law 449 = .ok (.aload_n 3, 1) := by decide +kernel
theorem dL_law_450 : decode cL_law 450 = .ok (.iconst 0, 1) := by decide +kernel
theorem dL_law_451 : decode cL_law 451 = .ok (.laload, 1) := by decide +kernel
theorem dL_law_452 : decode cL_law 452 = .ok (.iload 6, 2) := by decide +kernel
theorem dL_law_454 : decode cL_law 454 = .ok (.i2l, 1) := by decide +kernel
theorem dL_law_455 : decode cL_law 455 = .ok (.lcmp, 1) := by decide +kernel
theorem dL_law_456 : decode cL_law 456 = .ok (.ifCond .eq 5, 3) := by decide +kernel
theorem dL_law_459 : decode cL_law 459 = .ok (.iconst 0, 1) := by decide +kernel
theorem dL_law_460 : decode cL_law 460 = .ok (.ireturn, 1) := by decide +kernel
theorem dL_law_461 : decode cL_law 461 = .ok (.goto 1018, 3) := by decide +kernel
theorem dL_law_464 : decode cL_law 464 = .ok (.aload_n 1, 1) := by decide +kernel
theorem dL_law_465 : decode cL_law 465 = .ok (.aload_n 0, 1) := by decide +kernel
theorem dL_law_466 : decode cL_law 466 = .ok (.iload 4, 2) := by decide +kernel
theorem dL_law_468 : decode cL_law 468 = .ok (.iconst 1, 1) := by decide +kernel
theorem dL_law_469 : decode cL_law 469 = .ok (.iadd, 1) := by decide +kernel
theorem dL_law_470 : decode cL_law 470 = .ok (.iaload, 1) := by decide +kernel
theorem dL_law_471 : decode cL_law 471 = .ok (.aload_n 3, 1) := by decide +kernel
theorem dL_law_472 : decode cL_law 472 = .ok (.invokestatic 107, 3) := by decide +kernel
theorem dL_law_475 : decode cL_law 475 = .ok (.istore 5, 2) := by decide +kernel
theorem dL_law_477 : decode cL_law 477 = .ok (.aload_n 2, 1) := by decide +kernel
theorem dL_law_478 : decode cL_law 478 = .ok (.aload_n 0, 1) := by decide +kernel
theorem dL_law_479 : decode cL_law 479 = .ok (.iload 4, 2) := by decide +kernel
theorem dL_law_481 : decode cL_law 481 = .ok (.iconst 1, 1) := by decide +kernel
theorem dL_law_482 : decode cL_law 482 = .ok (.iadd, 1) := by decide +kernel
theorem dL_law_483 : decode cL_law 483 = .ok (.iaload, 1) := by decide +kernel
theorem dL_law_484 : decode cL_law 484 = .ok (.invokevirtual 109, 3) := by decide +kernel
theorem dL_law_487 : decode cL_law 487 = .ok (.istore 6, 2) := by decide +kernel
theorem dL_law_489 : decode cL_law 489 = .ok (.aload_n 2, 1) := by decide +kernel
theorem dL_law_490 : decode cL_law 490 = .ok (.invokevirtual 91, 3) := by decide +kernel
theorem dL_law_493 : decode cL_law 493 = .ok (.iload 5, 2) := by decide +kernel
theorem dL_law_495 : decode cL_law 495 = .ok (.if_icmp .eq 5, 3) := by decide +kernel
theorem dL_law_498 : decode cL_law 498 = .ok (.iconst 0, 1) := by decide +kernel
theorem dL_law_499 : decode cL_law 499 = .ok (.ireturn, 1) := by decide +kernel
theorem dL_law_500 : decode cL_law 500 = .ok (.iload 5, 2) := by decide +kernel
theorem dL_law_502 : decode cL_law 502 = .ok (.ifCond .ne 15, 3) := by decide +kernel
theorem dL_law_505 : decode cL_law 505 = .ok (.aload_n 3, 1) := by decide +kernel
theorem dL_law_506 : decode cL_law 506 = .ok (.iconst 0, 1) := by decide +kernel
theorem dL_law_507 : decode cL_law 507 = .ok (.laload, 1) := by decide +kernel
theorem dL_law_508 : decode cL_law 508 = .ok (.iload 6, 2) := by decide +kernel
theorem dL_law_510 : decode cL_law 510 = .ok (.i2l, 1) := by decide +kernel
theorem dL_law_511 : decode cL_law 511 = .ok (.lcmp, 1) := by decide +kernel
theorem dL_law_512 : decode cL_law 512 = .ok (.ifCond .eq 5, 3) := by decide +kernel
theorem dL_law_515 : decode cL_law 515 = .ok (.iconst 0, 1) := by decide +kernel
theorem dL_law_516 : decode cL_law 516 = .ok (.ireturn, 1) := by decide +kernel
theorem dL_law_517 : decode cL_law 517 = .ok (.goto 962, 3) := by decide +kernel
theorem dL_law_520 : decode cL_law 520 = .ok (.aload_n 1, 1) := by decide +kernel
theorem dL_law_521 : decode cL_law 521 = .ok (.invokevirtual 110, 3) := by decide +kernel
theorem dL_law_524 : decode cL_law 524 = .ok (.aload_n 2, 1) := by decide +kernel
theorem dL_law_525 : decode cL_law 525 = .ok (.invokevirtual 113, 3) := by decide +kernel
theorem dL_law_528 : decode cL_law 528 = .ok (.if_icmp .eq 951, 3) := by decide +kernel
theorem dL_law_531 : decode cL_law 531 = .ok (.iconst 0, 1) := by decide +kernel
theorem dL_law_532 : decode cL_law 532 = .ok (.ireturn, 1) := by decide +kernel
theorem dL_law_533 : decode cL_law 533 = .ok (.aload_n 1, 1) := by decide +kernel
theorem dL_law_534 : decode cL_law 534 = .ok (.aload_n 0, 1) := by decide +kernel
theorem dL_law_535 : decode cL_law 535 = .ok (.iload 4, 2) := by decide +kernel
theorem dL_law_537 : decode cL_law 537 = .ok (.iconst 1, 1) := by decide +kernel
theorem dL_law_538 : decode cL_law 538 = .ok (.iadd, 1) := by decide +kernel
theorem dL_law_539 : decode cL_law 539 = .ok (.iaload, 1) := by decide +kernel
theorem dL_law_540 : decode cL_law 540 = .ok (.aload_n 3, 1) := by decide +kernel
theorem dL_law_541 : decode cL_law 541 = .ok (.invokestatic 114, 3) := by decide +kernel
theorem dL_law_544 : decode cL_law 544 = .ok (.istore 5, 2) := by decide +kernel
theorem dL_law_546 : decode cL_law 546 = .ok (.aload_n 2, 1) := by decide +kernel
theorem dL_law_547 : decode cL_law 547 = .ok (.aload_n 0, 1) := by decide +kernel
theorem dL_law_548 : decode cL_law 548 = .ok (.iload 4, 2) := by decide +kernel
theorem dL_law_550 : decode cL_law 550 = .ok (.iconst 1, 1) := by decide +kernel
theorem dL_law_551 : decode cL_law 551 = .ok (.iadd, 1) := by decide +kernel
theorem dL_law_552 : decode cL_law 552 = .ok (.iaload, 1) := by decide +kernel
theorem dL_law_553 : decode cL_law 553 = .ok (.invokevirtual 116, 3) := by decide +kernel
theorem dL_law_556 : decode cL_law 556 = .ok (.istore 6, 2) := by decide +kernel
theorem dL_law_558 : decode cL_law 558 = .ok (.aload_n 2, 1) := by decide +kernel
theorem dL_law_559 : decode cL_law 559 = .ok (.invokevirtual 91, 3) := by decide +kernel
theorem dL_law_562 : decode cL_law 562 = .ok (.iload 5, 2) := by decide +kernel
theorem dL_law_564 : decode cL_law 564 = .ok (.if_icmp .eq 5, 3) := by decide +kernel
theorem dL_law_567 : decode cL_law 567 = .ok (.iconst 0, 1) := by decide +kernel
theorem dL_law_568 : decode cL_law 568 = .ok (.ireturn, 1) := by decide +kernel
theorem dL_law_569 : decode cL_law 569 = .ok (.iload 5, 2) := by decide +kernel
theorem dL_law_571 : decode cL_law 571 = .ok (.ifCond .ne 15, 3) := by decide +kernel
theorem dL_law_574 : decode cL_law 574 = .ok (.aload_n 3, 1) := by decide +kernel
theorem dL_law_575 : decode cL_law 575 = .ok (.iconst 0, 1) := by decide +kernel
theorem dL_law_576 : decode cL_law 576 = .ok (.laload, 1) := by decide +kernel
theorem dL_law_577 : decode cL_law 577 = .ok (.iload 6, 2) := by decide +kernel
theorem dL_law_579 : decode cL_law 579 = .ok (.i2l, 1) := by decide +kernel
theorem dL_law_580 : decode cL_law 580 = .ok (.lcmp, 1) := by decide +kernel
theorem dL_law_581 : decode cL_law 581 = .ok (.ifCond .eq 5, 3) := by decide +kernel
theorem dL_law_584 : decode cL_law 584 = .ok (.iconst 0, 1) := by decide +kernel
theorem dL_law_585 : decode cL_law 585 = .ok (.ireturn, 1) := by decide +kernel
theorem dL_law_586 : decode cL_law 586 = .ok (.goto 893, 3) := by decide +kernel
theorem dL_law_589 : decode cL_law 589 = .ok (.aload_n 1, 1) := by decide +kernel
theorem dL_law_590 : decode cL_law 590 = .ok (.aload_n 0, 1) := by decide +kernel
theorem dL_law_591 : decode cL_law 591 = .ok (.iload 4, 2) := by decide +kernel
theorem dL_law_593 : decode cL_law 593 = .ok (.iconst 1, 1) := by decide +kernel
theorem dL_law_594 : decode cL_law 594 = .ok (.iadd, 1) := by decide +kernel
theorem dL_law_595 : decode cL_law 595 = .ok (.iaload, 1) := by decide +kernel
theorem dL_law_596 : decode cL_law 596 = .ok (.aload_n 0, 1) := by decide +kernel
theorem dL_law_597 : decode cL_law 597 = .ok (.iload 4, 2) := by decide +kernel
theorem dL_law_599 : decode cL_law 599 = .ok (.iconst 2, 1) := by decide +kernel
theorem dL_law_600 : decode cL_law 600 = .ok (.iadd, 1) := by decide +kernel
theorem dL_law_601 : decode cL_law 601 = .ok (.iaload, 1) := by decide +kernel
theorem dL_law_602 : decode cL_law 602 = .ok (.aload_n 3, 1) := by decide +kernel
theorem dL_law_603 : decode cL_law 603 = .ok (.invokestatic 117, 3) := by decide +kernel
theorem dL_law_606 : decode cL_law 606 = .ok (.istore 5, 2) := by decide +kernel
theorem dL_law_608 : decode cL_law 608 = .ok (.aload_n 2, 1) := by decide +kernel
theorem dL_law_609 : decode cL_law 609 = .ok (.aload_n 0, 1) := by decide +kernel
theorem dL_law_610 : decode cL_law 610 = .ok (.iload 4, 2) := by decide +kernel
theorem dL_law_612 : decode cL_law 612 = .ok (.iconst 1, 1) := by decide +kernel
theorem dL_law_613 : decode cL_law 613 = .ok (.iadd, 1) := by decide +kernel
theorem dL_law_614 : decode cL_law 614 = .ok (.iaload, 1) := by decide +kernel
theorem dL_law_615 : decode cL_law 615 = .ok (.aload_n 0, 1) := by decide +kernel
theorem dL_law_616 : decode cL_law 616 = .ok (.iload 4, 2) := by decide +kernel
theorem dL_law_618 : decode cL_law 618 = .ok (.iconst 2, 1) := by decide +kernel
theorem dL_law_619 : decode cL_law 619 = .ok (.iadd, 1) := by decide +kernel
theorem dL_law_620 : decode cL_law 620 = .ok (.iaload, 1) := by decide +kernel
theorem dL_law_621 : decode cL_law 621 = .ok (.invokevirtual 119, 3) := by decide +kernel
theorem dL_law_624 : decode cL_law 624 = .ok (.istore 6, 2) := by decide +kernel
theorem dL_law_626 : decode cL_law 626 = .ok (.aload_n 2, 1) := by decide +kernel
theorem dL_law_627 : decode cL_law 627 = .ok (.invokevirtual 91, 3) := by decide +kernel
theorem dL_law_630 : decode cL_law 630 = .ok (.iload 5, 2) := by decide +kernel
theorem dL_law_632 : decode cL_law 632 = .ok (.if_icmp .eq 5, 3) := by decide +kernel
theorem dL_law_635 : decode cL_law 635 = .ok (.iconst 0, 1) := by decide +kernel
theorem dL_law_636 : decode cL_law 636 = .ok (.ireturn, 1) := by decide +kernel
theorem dL_law_637 : decode cL_law 637 = .ok (.iload 5, 2) := by decide +kernel
theorem dL_law_639 : decode cL_law 639 = .ok (.ifCond .ne 15, 3) := by decide +kernel
theorem dL_law_642 : decode cL_law 642 = .ok (.aload_n 3, 1) := by decide +kernel
theorem dL_law_643 : decode cL_law 643 = .ok (.iconst 0, 1) := by decide +kernel
theorem dL_law_644 : decode cL_law 644 = .ok (.laload, 1) := by decide +kernel
theorem dL_law_645 : decode cL_law 645 = .ok (.iload 6, 2) := by decide +kernel
theorem dL_law_647 : decode cL_law 647 = .ok (.i2l, 1) := by decide +kernel
theorem dL_law_648 : decode cL_law 648 = .ok (.lcmp, 1) := by decide +kernel
theorem dL_law_649 : decode cL_law 649 = .ok (.ifCond .eq 5, 3) := by decide +kernel
theorem dL_law_652 : decode cL_law 652 = .ok (.iconst 0, 1) := by decide +kernel
theorem dL_law_653 : decode cL_law 653 = .ok (.ireturn, 1) := by decide +kernel
theorem dL_law_654 : decode cL_law 654 = .ok (.goto 825, 3) := by decide +kernel
theorem dL_law_657 : decode cL_law 657 = .ok (.aload_n 1, 1) := by decide +kernel
theorem dL_law_658 : decode cL_law 658 = .ok (.aload_n 0, 1) := by decide +kernel
theorem dL_law_659 : decode cL_law 659 = .ok (.iload 4, 2) := by decide +kernel
theorem dL_law_661 : decode cL_law 661 = .ok (.iconst 1, 1) := by decide +kernel
theorem dL_law_662 : decode cL_law 662 = .ok (.iadd, 1) := by decide +kernel
theorem dL_law_663 : decode cL_law 663 = .ok (.iaload, 1) := by decide +kernel
theorem dL_law_664 : decode cL_law 664 = .ok (.aload_n 3, 1) := by decide +kernel
theorem dL_law_665 : decode cL_law 665 = .ok (.invokestatic 120, 3) := by decide +kernel
theorem dL_law_668 : decode cL_law 668 = .ok (.istore 5, 2) := by decide +kernel
theorem dL_law_670 : decode cL_law 670 = .ok (.aload_n 2, 1) := by decide +kernel
theorem dL_law_671 : decode cL_law 671 = .ok (.aload_n 0, 1) := by decide +kernel
theorem dL_law_672 : decode cL_law 672 = .ok (.iload 4, 2) := by decide +kernel
theorem dL_law_674 : decode cL_law 674 = .ok (.iconst 1, 1) := by decide +kernel
theorem dL_law_675 : decode cL_law 675 = .ok (.iadd, 1) := by decide +kernel
theorem dL_law_676 : decode cL_law 676 = .ok (.iaload, 1) := by decide +kernel
theorem dL_law_677 : decode cL_law 677 = .ok (.invokevirtual 122, 3) := by decide +kernel
theorem dL_law_680 : decode cL_law 680 = .ok (.istore 6, 2) := by decide +kernel
theorem dL_law_682 : decode cL_law 682 = .ok (.aload_n 2, 1) := by decide +kernel
theorem dL_law_683 : decode cL_law 683 = .ok (.invokevirtual 91, 3) := by decide +kernel
theorem dL_law_686 : decode cL_law 686 = .ok (.iload 5, 2) := by decide +kernel
theorem dL_law_688 : decode cL_law 688 = .ok (.if_icmp .eq 5, 3) := by decide +kernel
theorem dL_law_691 : decode cL_law 691 = .ok (.iconst 0, 1) := by decide +kernel
theorem dL_law_692 : decode cL_law 692 = .ok (.ireturn, 1) := by decide +kernel
theorem dL_law_693 : decode cL_law 693 = .ok (.iload 5, 2) := by decide +kernel
theorem dL_law_695 : decode cL_law 695 = .ok (.ifCond .ne 15, 3) := by decide +kernel
theorem dL_law_698 : decode cL_law 698 = .ok (.aload_n 3, 1) := by decide +kernel
theorem dL_law_699 : decode cL_law 699 = .ok (.iconst 0, 1) := by decide +kernel
theorem dL_law_700 : decode cL_law 700 = .ok (.laload, 1) := by decide +kernel
theorem dL_law_701 : decode cL_law 701 = .ok (.iload 6, 2) := by decide +kernel
theorem dL_law_703 : decode cL_law 703 = .ok (.i2l, 1) := by decide +kernel
theorem dL_law_704 : decode cL_law 704 = .ok (.lcmp, 1) := by decide +kernel
theorem dL_law_705 : decode cL_law 705 = .ok (.ifCond .eq 5, 3) := by decide +kernel
theorem dL_law_708 : decode cL_law 708 = .ok (.iconst 0, 1) := by decide +kernel
theorem dL_law_709 : decode cL_law 709 = .ok (.ireturn, 1) := by decide +kernel
theorem dL_law_710 : decode cL_law 710 = .ok (.goto 769, 3) := by decide +kernel
theorem dL_law_713 : decode cL_law 713 = .ok (.aload_n 1, 1) := by decide +kernel
theorem dL_law_714 : decode cL_law 714 = .ok (.invokevirtual 123, 3) := by decide +kernel
theorem dL_law_717 : decode cL_law 717 = .ok (.aload_n 2, 1) := by decide +kernel
theorem dL_law_718 : decode cL_law 718 = .ok (.invokevirtual 126, 3) := by decide +kernel
theorem dL_law_721 : decode cL_law 721 = .ok (.if_icmp .eq 758, 3) := by decide +kernel
theorem dL_law_724 : decode cL_law 724 = .ok (.iconst 0, 1) := by decide +kernel
theorem dL_law_725 : decode cL_law 725 = .ok (.ireturn, 1) := by decide +kernel
theorem dL_law_726 : decode cL_law 726 = .ok (.aload_n 1, 1) := by decide +kernel
theorem dL_law_727 : decode cL_law 727 = .ok (.invokevirtual 127, 3) := by decide +kernel
theorem dL_law_730 : decode cL_law 730 = .ok (.aload_n 2, 1) := by decide +kernel
theorem dL_law_731 : decode cL_law 731 = .ok (.invokevirtual 130, 3) := by decide +kernel
theorem dL_law_734 : decode cL_law 734 = .ok (.if_icmp .eq 745, 3) := by decide +kernel
theorem dL_law_737 : decode cL_law 737 = .ok (.iconst 0, 1) := by decide +kernel
theorem dL_law_738 : decode cL_law 738 = .ok (.ireturn, 1) := by decide +kernel
theorem dL_law_739 : decode cL_law 739 = .ok (.aload_n 1, 1) := by decide +kernel
theorem dL_law_740 : decode cL_law 740 = .ok (.aload_n 3, 1) := by decide +kernel
theorem dL_law_741 : decode cL_law 741 = .ok (.invokestatic 131, 3) := by decide +kernel
theorem dL_law_744 : decode cL_law 744 = .ok (.istore 5, 2) := by decide +kernel
theorem dL_law_746 : decode cL_law 746 = .ok (.aload_n 2, 1) := by decide +kernel
theorem dL_law_747 : decode cL_law 747 = .ok (.invokevirtual 134, 3) := by decide +kernel
theorem dL_law_750 : decode cL_law 750 = .ok (.istore 6, 2) := by decide +kernel
theorem dL_law_752 : decode cL_law 752 = .ok (.aload_n 2, 1) := by decide +kernel
theorem dL_law_753 : decode cL_law 753 = .ok (.invokevirtual 91, 3) := by decide +kernel
theorem dL_law_756 : decode cL_law 756 = .ok (.iload 5, 2) := by decide +kernel
theorem dL_law_758 : decode cL_law 758 = .ok (.if_icmp .eq 5, 3) := by decide +kernel
theorem dL_law_761 : decode cL_law 761 = .ok (.iconst 0, 1) := by decide +kernel
theorem dL_law_762 : decode cL_law 762 = .ok (.ireturn, 1) := by decide +kernel
theorem dL_law_763 : decode cL_law 763 = .ok (.iload 5, 2) := by decide +kernel
theorem dL_law_765 : decode cL_law 765 = .ok (.ifCond .ne 15, 3) := by decide +kernel
theorem dL_law_768 : decode cL_law 768 = .ok (.aload_n 3, 1) := by decide +kernel
theorem dL_law_769 : decode cL_law 769 = .ok (.iconst 0, 1) := by decide +kernel
theorem dL_law_770 : decode cL_law 770 = .ok (.laload, 1) := by decide +kernel
theorem dL_law_771 : decode cL_law 771 = .ok (.iload 6, 2) := by decide +kernel
theorem dL_law_773 : decode cL_law 773 = .ok (.i2l, 1) := by decide +kernel
theorem dL_law_774 : decode cL_law 774 = .ok (.lcmp, 1) := by decide +kernel
theorem dL_law_775 : decode cL_law 775 = .ok (.ifCond .eq 5, 3) := by decide +kernel
theorem dL_law_778 : decode cL_law 778 = .ok (.iconst 0, 1) := by decide +kernel
theorem dL_law_779 : decode cL_law 779 = .ok (.ireturn, 1) := by decide +kernel
theorem dL_law_780 : decode cL_law 780 = .ok (.goto 699, 3) := by decide +kernel
theorem dL_law_783 : decode cL_law 783 = .ok (.aload_n 1, 1) := by decide +kernel
theorem dL_law_784 : decode cL_law 784 = .ok (.aload_n 0, 1) := by decide +kernel
theorem dL_law_785 : decode cL_law 785 = .ok (.iload 4, 2) := by decide +kernel
theorem dL_law_787 : decode cL_law 787 = .ok (.iconst 1, 1) := by decide +kernel
theorem dL_law_788 : decode cL_law 788 = .ok (.iadd, 1) := by decide +kernel
theorem dL_law_789 : decode cL_law 789 = .ok (.iaload, 1) := by decide +kernel
theorem dL_law_790 : decode cL_law 790 = .ok (.aload_n 3, 1) := by decide +kernel
theorem dL_law_791 : decode cL_law 791 = .ok (.invokestatic 135, 3) := by decide +kernel
theorem dL_law_794 : decode cL_law 794 = .ok (.istore 5, 2) := by decide +kernel
theorem dL_law_796 : decode cL_law 796 = .ok (.aload_n 2, 1) := by decide +kernel
theorem dL_law_797 : decode cL_law 797 = .ok (.aload_n 0, 1) := by decide +kernel
theorem dL_law_798 : decode cL_law 798 = .ok (.iload 4, 2) := by decide +kernel
theorem dL_law_800 : decode cL_law 800 = .ok (.iconst 1, 1) := by decide +kernel
theorem dL_law_801 : decode cL_law 801 = .ok (.iadd, 1) := by decide +kernel
theorem dL_law_802 : decode cL_law 802 = .ok (.iaload, 1) := by decide +kernel
theorem dL_law_803 : decode cL_law 803 = .ok (.invokevirtual 137, 3) := by decide +kernel
theorem dL_law_806 : decode cL_law 806 = .ok (.istore 6, 2) := by decide +kernel
theorem dL_law_808 : decode cL_law 808 = .ok (.aload_n 2, 1) := by decide +kernel
theorem dL_law_809 : decode cL_law 809 = .ok (.invokevirtual 91, 3) := by decide +kernel
theorem dL_law_812 : decode cL_law 812 = .ok (.iload 5, 2) := by decide +kernel
theorem dL_law_814 : decode cL_law 814 = .ok (.if_icmp .eq 5, 3) := by decide +kernel
theorem dL_law_817 : decode cL_law 817 = .ok (.iconst 0, 1) := by decide +kernel
theorem dL_law_818 : decode cL_law 818 = .ok (.ireturn, 1) := by decide +kernel
theorem dL_law_819 : decode cL_law 819 = .ok (.iload 5, 2) := by decide +kernel
theorem dL_law_821 : decode cL_law 821 = .ok (.ifCond .ne 15, 3) := by decide +kernel
theorem dL_law_824 : decode cL_law 824 = .ok (.aload_n 3, 1) := by decide +kernel
theorem dL_law_825 : decode cL_law 825 = .ok (.iconst 0, 1) := by decide +kernel
theorem dL_law_826 : decode cL_law 826 = .ok (.laload, 1) := by decide +kernel
theorem dL_law_827 : decode cL_law 827 = .ok (.iload 6, 2) := by decide +kernel
theorem dL_law_829 : decode cL_law 829 = .ok (.i2l, 1) := by decide +kernel
theorem dL_law_830 : decode cL_law 830 = .ok (.lcmp, 1) := by decide +kernel
theorem dL_law_831 : decode cL_law 831 = .ok (.ifCond .eq 5, 3) := by decide +kernel
theorem dL_law_834 : decode cL_law 834 = .ok (.iconst 0, 1) := by decide +kernel
theorem dL_law_835 : decode cL_law 835 = .ok (.ireturn, 1) := by decide +kernel
theorem dL_law_836 : decode cL_law 836 = .ok (.goto 643, 3) := by decide +kernel
theorem dL_law_839 : decode cL_law 839 = .ok (.aload_n 1, 1) := by decide +kernel
theorem dL_law_840 : decode cL_law 840 = .ok (.aload_n 0, 1) := by decide +kernel
theorem dL_law_841 : decode cL_law 841 = .ok (.iload 4, 2) := by decide +kernel
theorem dL_law_843 : decode cL_law 843 = .ok (.iconst 1, 1) := by decide +kernel
theorem dL_law_844 : decode cL_law 844 = .ok (.iadd, 1) := by decide +kernel
theorem dL_law_845 : decode cL_law 845 = .ok (.iaload, 1) := by decide +kernel
theorem dL_law_846 : decode cL_law 846 = .ok (.aload_n 3, 1) := by decide +kernel
theorem dL_law_847 : decode cL_law 847 = .ok (.invokestatic 138, 3) := by decide +kernel
theorem dL_law_850 : decode cL_law 850 = .ok (.istore 5, 2) := by decide +kernel
theorem dL_law_852 : decode cL_law 852 = .ok (.aload_n 2, 1) := by decide +kernel
theorem dL_law_853 : decode cL_law 853 = .ok (.aload_n 0, 1) := by decide +kernel
theorem dL_law_854 : decode cL_law 854 = .ok (.iload 4, 2) := by decide +kernel
theorem dL_law_856 : decode cL_law 856 = .ok (.iconst 1, 1) := by decide +kernel
theorem dL_law_857 : decode cL_law 857 = .ok (.iadd, 1) := by decide +kernel
theorem dL_law_858 : decode cL_law 858 = .ok (.iaload, 1) := by decide +kernel
theorem dL_law_859 : decode cL_law 859 = .ok (.invokevirtual 140, 3) := by decide +kernel
theorem dL_law_862 : decode cL_law 862 = .ok (.istore 6, 2) := by decide +kernel
theorem dL_law_864 : decode cL_law 864 = .ok (.aload_n 2, 1) := by decide +kernel
theorem dL_law_865 : decode cL_law 865 = .ok (.invokevirtual 91, 3) := by decide +kernel
theorem dL_law_868 : decode cL_law 868 = .ok (.iload 5, 2) := by decide +kernel
theorem dL_law_870 : decode cL_law 870 = .ok (.if_icmp .eq 5, 3) := by decide +kernel
theorem dL_law_873 : decode cL_law 873 = .ok (.iconst 0, 1) := by decide +kernel
theorem dL_law_874 : decode cL_law 874 = .ok (.ireturn, 1) := by decide +kernel
theorem dL_law_875 : decode cL_law 875 = .ok (.iload 5, 2) := by decide +kernel
theorem dL_law_877 : decode cL_law 877 = .ok (.ifCond .ne 15, 3) := by decide +kernel
theorem dL_law_880 : decode cL_law 880 = .ok (.aload_n 3, 1) := by decide +kernel
theorem dL_law_881 : decode cL_law 881 = .ok (.iconst 0, 1) := by decide +kernel
theorem dL_law_882 : decode cL_law 882 = .ok (.laload, 1) := by decide +kernel
theorem dL_law_883 : decode cL_law 883 = .ok (.iload 6, 2) := by decide +kernel
theorem dL_law_885 : decode cL_law 885 = .ok (.i2l, 1) := by decide +kernel
theorem dL_law_886 : decode cL_law 886 = .ok (.lcmp, 1) := by decide +kernel
theorem dL_law_887 : decode cL_law 887 = .ok (.ifCond .eq 5, 3) := by decide +kernel
theorem dL_law_890 : decode cL_law 890 = .ok (.iconst 0, 1) := by decide +kernel
theorem dL_law_891 : decode cL_law 891 = .ok (.ireturn, 1) := by decide +kernel
theorem dL_law_892 : decode cL_law 892 = .ok (.goto 587, 3) := by decide +kernel
theorem dL_law_895 : decode cL_law 895 = .ok (.aload_n 1, 1) := by decide +kernel
theorem dL_law_896 : decode cL_law 896 = .ok (.aload_n 3, 1) := by decide +kernel
theorem dL_law_897 : decode cL_law 897 = .ok (.invokestatic 141, 3) := by decide +kernel
theorem dL_law_900 : decode cL_law 900 = .ok (.istore 5, 2) := by decide +kernel
theorem dL_law_902 : decode cL_law 902 = .ok (.aload_n 2, 1) := by decide +kernel
theorem dL_law_903 : decode cL_law 903 = .ok (.invokevirtual 143, 3) := by decide +kernel
theorem dL_law_906 : decode cL_law 906 = .ok (.istore 6, 2) := by decide +kernel
theorem dL_law_908 : decode cL_law 908 = .ok (.aload_n 2, 1) := by decide +kernel
theorem dL_law_909 : decode cL_law 909 = .ok (.invokevirtual 91, 3) := by decide +kernel
theorem dL_law_912 : decode cL_law 912 = .ok (.iload 5, 2) := by decide +kernel
theorem dL_law_914 : decode cL_law 914 = .ok (.if_icmp .eq 5, 3) := by decide +kernel
theorem dL_law_917 : decode cL_law 917 = .ok (.iconst 0, 1) := by decide +kernel
theorem dL_law_918 : decode cL_law 918 = .ok (.ireturn, 1) := by decide +kernel
theorem dL_law_919 : decode cL_law 919 = .ok (.iload 5, 2) := by decide +kernel
theorem dL_law_921 : decode cL_law 921 = .ok (.ifCond .ne 15, 3) := by decide +kernel
theorem dL_law_924 : decode cL_law 924 = .ok (.aload_n 3, 1) := by decide +kernel
theorem dL_law_925 : decode cL_law 925 = .ok (.iconst 0, 1) := by decide +kernel
theorem dL_law_926 : decode cL_law 926 = .ok (.laload, 1) := by decide +kernel
theorem dL_law_927 : decode cL_law 927 = .ok (.iload 6, 2) := by decide +kernel
theorem dL_law_929 : decode cL_law 929 = .ok (.i2l, 1) := by decide +kernel
theorem dL_law_930 : decode cL_law 930 = .ok (.lcmp, 1) := by decide +kernel
theorem dL_law_931 : decode cL_law 931 = .ok (.ifCond .eq 5, 3) := by decide +kernel
theorem dL_law_934 : decode cL_law 934 = .ok (.iconst 0, 1) := by decide +kernel
theorem dL_law_935 : decode cL_law 935 = .ok (.ireturn, 1) := by decide +kernel
theorem dL_law_936 : decode cL_law 936 = .ok (.goto 543, 3) := by decide +kernel
theorem dL_law_939 : decode cL_law 939 = .ok (.aload_n 1, 1) := by decide +kernel
theorem dL_law_940 : decode cL_law 940 = .ok (.aload_n 0, 1) := by decide +kernel
theorem dL_law_941 : decode cL_law 941 = .ok (.iload 4, 2) := by decide +kernel
theorem dL_law_943 : decode cL_law 943 = .ok (.iconst 1, 1) := by decide +kernel
theorem dL_law_944 : decode cL_law 944 = .ok (.iadd, 1) := by decide +kernel
theorem dL_law_945 : decode cL_law 945 = .ok (.iaload, 1) := by decide +kernel
theorem dL_law_946 : decode cL_law 946 = .ok (.aload_n 0, 1) := by decide +kernel
theorem dL_law_947 : decode cL_law 947 = .ok (.iload 4, 2) := by decide +kernel
theorem dL_law_949 : decode cL_law 949 = .ok (.iconst 2, 1) := by decide +kernel
theorem dL_law_950 : decode cL_law 950 = .ok (.iadd, 1) := by decide +kernel
theorem dL_law_951 : decode cL_law 951 = .ok (.iaload, 1) := by decide +kernel
theorem dL_law_952 : decode cL_law 952 = .ok (.aload_n 3, 1) := by decide +kernel
theorem dL_law_953 : decode cL_law 953 = .ok (.invokestatic 144, 3) := by decide +kernel
theorem dL_law_956 : decode cL_law 956 = .ok (.istore 5, 2) := by decide +kernel
theorem dL_law_958 : decode cL_law 958 = .ok (.aload_n 2, 1) := by decide +kernel
theorem dL_law_959 : decode cL_law 959 = .ok (.aload_n 0, 1) := by decide +kernel
theorem dL_law_960 : decode cL_law 960 = .ok (.iload 4, 2) := by decide +kernel
theorem dL_law_962 : decode cL_law 962 = .ok (.iconst 1, 1) := by decide +kernel
theorem dL_law_963 : decode cL_law 963 = .ok (.iadd, 1) := by decide +kernel
theorem dL_law_964 : decode cL_law 964 = .ok (.iaload, 1) := by decide +kernel
theorem dL_law_965 : decode cL_law 965 = .ok (.aload_n 0, 1) := by decide +kernel
theorem dL_law_966 : decode cL_law 966 = .ok (.iload 4, 2) := by decide +kernel
theorem dL_law_968 : decode cL_law 968 = .ok (.iconst 2, 1) := by decide +kernel
theorem dL_law_969 : decode cL_law 969 = .ok (.iadd, 1) := by decide +kernel
theorem dL_law_970 : decode cL_law 970 = .ok (.iaload, 1) := by decide +kernel
theorem dL_law_971 : decode cL_law 971 = .ok (.invokevirtual 146, 3) := by decide +kernel
theorem dL_law_974 : decode cL_law 974 = .ok (.istore 6, 2) := by decide +kernel
theorem dL_law_976 : decode cL_law 976 = .ok (.aload_n 2, 1) := by decide +kernel
theorem dL_law_977 : decode cL_law 977 = .ok (.invokevirtual 91, 3) := by decide +kernel
theorem dL_law_980 : decode cL_law 980 = .ok (.iload 5, 2) := by decide +kernel
theorem dL_law_982 : decode cL_law 982 = .ok (.if_icmp .eq 5, 3) := by decide +kernel
theorem dL_law_985 : decode cL_law 985 = .ok (.iconst 0, 1) := by decide +kernel
theorem dL_law_986 : decode cL_law 986 = .ok (.ireturn, 1) := by decide +kernel
theorem dL_law_987 : decode cL_law 987 = .ok (.iload 5, 2) := by decide +kernel
theorem dL_law_989 : decode cL_law 989 = .ok (.ifCond .ne 15, 3) := by decide +kernel
theorem dL_law_992 : decode cL_law 992 = .ok (.aload_n 3, 1) := by decide +kernel
theorem dL_law_993 : decode cL_law 993 = .ok (.iconst 0, 1) := by decide +kernel
theorem dL_law_994 : decode cL_law 994 = .ok (.laload, 1) := by decide +kernel
theorem dL_law_995 : decode cL_law 995 = .ok (.iload 6, 2) := by decide +kernel
theorem dL_law_997 : decode cL_law 997 = .ok (.i2l, 1) := by decide +kernel
theorem dL_law_998 : decode cL_law 998 = .ok (.lcmp, 1) := by decide +kernel
theorem dL_law_999 : decode cL_law 999 = .ok (.ifCond .eq 5, 3) := by decide +kernel
theorem dL_law_1002 : decode cL_law 1002 = .ok (.iconst 0, 1) := by decide +kernel
theorem dL_law_1003 : decode cL_law 1003 = .ok (.ireturn, 1) := by decide +kernel
theorem dL_law_1004 : decode cL_law 1004 = .ok (.goto 475, 3) := by decide +kernel
theorem dL_law_1007 : decode cL_law 1007 = .ok (.aload_n 1, 1) := by decide +kernel
theorem dL_law_1008 : decode cL_law 1008 = .ok (.aload_n 0, 1) := by decide +kernel
theorem dL_law_1009 : decode cL_law 1009 = .ok (.iload 4, 2) := by decide +kernel
theorem dL_law_1011 : decode cL_law 1011 = .ok (.iconst 1, 1) := by decide +kernel
theorem dL_law_1012 : decode cL_law 1012 = .ok (.iadd, 1) := by decide +kernel
theorem dL_law_1013 : decode cL_law 1013 = .ok (.iaload, 1) := by decide +kernel
theorem dL_law_1014 : decode cL_law 1014 = .ok (.aload_n 0, 1) := by decide +kernel
theorem dL_law_1015 : decode cL_law 1015 = .ok (.iload 4, 2) := by decide +kernel
theorem dL_law_1017 : decode cL_law 1017 = .ok (.iconst 2, 1) := by decide +kernel
theorem dL_law_1018 : decode cL_law 1018 = .ok (.iadd, 1) := by decide +kernel
theorem dL_law_1019 : decode cL_law 1019 = .ok (.iaload, 1) := by decide +kernel
theorem dL_law_1020 : decode cL_law 1020 = .ok (.aload_n 3, 1) := by decide +kernel
theorem dL_law_1021 : decode cL_law 1021 = .ok (.invokestatic 147, 3) := by decide +kernel
theorem dL_law_1024 : decode cL_law 1024 = .ok (.istore 5, 2) := by decide +kernel
theorem dL_law_1026 : decode cL_law 1026 = .ok (.aload_n 2, 1) := by decide +kernel
theorem dL_law_1027 : decode cL_law 1027 = .ok (.aload_n 0, 1) := by decide +kernel
theorem dL_law_1028 : decode cL_law 1028 = .ok (.iload 4, 2) := by decide +kernel
theorem dL_law_1030 : decode cL_law 1030 = .ok (.iconst 1, 1) := by decide +kernel
theorem dL_law_1031 : decode cL_law 1031 = .ok (.iadd, 1) := by decide +kernel
theorem dL_law_1032 : decode cL_law 1032 = .ok (.iaload, 1) := by decide +kernel
theorem dL_law_1033 : decode cL_law 1033 = .ok (.aload_n 0, 1) := by decide +kernel
theorem dL_law_1034 : decode cL_law 1034 = .ok (.iload 4, 2) := by decide +kernel
theorem dL_law_1036 : decode cL_law 1036 = .ok (.iconst 2, 1) := by decide +kernel
theorem dL_law_1037 : decode cL_law 1037 = .ok (.iadd, 1) := by decide +kernel
theorem dL_law_1038 : decode cL_law 1038 = .ok (.iaload, 1) := by decide +kernel
theorem dL_law_1039 : decode cL_law 1039 = .ok (.invokevirtual 149, 3) := by decide +kernel
theorem dL_law_1042 : decode cL_law 1042 = .ok (.istore 6, 2) := by decide +kernel
theorem dL_law_1044 : decode cL_law 1044 = .ok (.aload_n 2, 1) := by decide +kernel
theorem dL_law_1045 : decode cL_law 1045 = .ok (.invokevirtual 91, 3) := by decide +kernel
theorem dL_law_1048 : decode cL_law 1048 = .ok (.iload 5, 2) := by decide +kernel
theorem dL_law_1050 : decode cL_law 1050 = .ok (.if_icmp .eq 5, 3) := by decide +kernel
theorem dL_law_1053 : decode cL_law 1053 = .ok (.iconst 0, 1) := by decide +kernel
theorem dL_law_1054 : decode cL_law 1054 = .ok (.ireturn, 1) := by decide +kernel
theorem dL_law_1055 : decode cL_law 1055 = .ok (.iload 5, 2) := by decide +kernel
theorem dL_law_1057 : decode cL_law 1057 = .ok (.ifCond .ne 15, 3) := by decide +kernel
theorem dL_law_1060 : decode cL_law 1060 = .ok (.aload_n 3, 1) := by decide +kernel
theorem dL_law_1061 : decode cL_law 1061 = .ok (.iconst 0, 1) := by decide +kernel
theorem dL_law_1062 : decode cL_law 1062 = .ok (.laload, 1) := by decide +kernel
theorem dL_law_1063 : decode cL_law 1063 = .ok (.iload 6, 2) := by decide +kernel
theorem dL_law_1065 : decode cL_law 1065 = .ok (.i2l, 1) := by decide +kernel
theorem dL_law_1066 : decode cL_law 1066 = .ok (.lcmp, 1) := by decide +kernel
theorem dL_law_1067 : decode cL_law 1067 = .ok (.ifCond .eq 5, 3) := by decide +kernel
theorem dL_law_1070 : decode cL_law 1070 = .ok (.iconst 0, 1) := by decide +kernel
theorem dL_law_1071 : decode cL_law 1071 = .ok (.ireturn, 1) := by decide +kernel
theorem dL_law_1072 : decode cL_law 1072 = .ok (.goto 407, 3) := by decide +kernel
theorem dL_law_1075 : decode cL_law 1075 = .ok (.aload_n 1, 1) := by decide +kernel
theorem dL_law_1076 : decode cL_law 1076 = .ok (.aload_n 0, 1) := by decide +kernel
theorem dL_law_1077 : decode cL_law 1077 = .ok (.iload 4, 2) := by decide +kernel
theorem dL_law_1079 : decode cL_law 1079 = .ok (.iconst 1, 1) := by decide +kernel
theorem dL_law_1080 : decode cL_law 1080 = .ok (.iadd, 1) := by decide +kernel
theorem dL_law_1081 : decode cL_law 1081 = .ok (.iaload, 1) := by decide +kernel
theorem dL_law_1082 : decode cL_law 1082 = .ok (.aload_n 3, 1) := by decide +kernel
theorem dL_law_1083 : decode cL_law 1083 = .ok (.invokestatic 150, 3) := by decide +kernel
theorem dL_law_1086 : decode cL_law 1086 = .ok (.istore 5, 2) := by decide +kernel
theorem dL_law_1088 : decode cL_law 1088 = .ok (.aload_n 2, 1) := by decide +kernel
theorem dL_law_1089 : decode cL_law 1089 = .ok (.aload_n 0, 1) := by decide +kernel
theorem dL_law_1090 : decode cL_law 1090 = .ok (.iload 4, 2) := by decide +kernel
theorem dL_law_1092 : decode cL_law 1092 = .ok (.iconst 1, 1) := by decide +kernel
theorem dL_law_1093 : decode cL_law 1093 = .ok (.iadd, 1) := by decide +kernel
theorem dL_law_1094 : decode cL_law 1094 = .ok (.iaload, 1) := by decide +kernel
theorem dL_law_1095 : decode cL_law 1095 = .ok (.invokevirtual 152, 3) := by decide +kernel
theorem dL_law_1098 : decode cL_law 1098 = .ok (.istore 6, 2) := by decide +kernel
theorem dL_law_1100 : decode cL_law 1100 = .ok (.aload_n 2, 1) := by decide +kernel
theorem dL_law_1101 : decode cL_law 1101 = .ok (.invokevirtual 91, 3) := by decide +kernel
theorem dL_law_1104 : decode cL_law 1104 = .ok (.iload 5, 2) := by decide +kernel
theorem dL_law_1106 : decode cL_law 1106 = .ok (.if_icmp .eq 5, 3) := by decide +kernel
theorem dL_law_1109 : decode cL_law 1109 = .ok (.iconst 0, 1) := by decide +kernel
theorem dL_law_1110 : decode cL_law 1110 = .ok (.ireturn, 1) := by decide +kernel
theorem dL_law_1111 : decode cL_law 1111 = .ok (.iload 5, 2) := by decide +kernel
theorem dL_law_1113 : decode cL_law 1113 = .ok (.ifCond .ne 15, 3) := by decide +kernel
theorem dL_law_1116 : decode cL_law 1116 = .ok (.aload_n 3, 1) := by decide +kernel
theorem dL_law_1117 : decode cL_law 1117 = .ok (.iconst 0, 1) := by decide +kernel
theorem dL_law_1118 : decode cL_law 1118 = .ok (.laload, 1) := by decide +kernel
theorem dL_law_1119 : decode cL_law 1119 = .ok (.iload 6, 2) := by decide +kernel
theorem dL_law_1121 : decode cL_law 1121 = .ok (.i2l, 1) := by decide +kernel
theorem dL_law_1122 : decode cL_law 1122 = .ok (.lcmp, 1) := by decide +kernel
theorem dL_law_1123 : decode cL_law 1123 = .ok (.ifCond .eq 5, 3) := by decide +kernel
theorem dL_law_1126 : decode cL_law 1126 = .ok (.iconst 0, 1) := by decide +kernel
theorem dL_law_1127 : decode cL_law 1127 = .ok (.ireturn, 1) := by decide +kernel
theorem dL_law_1128 : decode cL_law 1128 = .ok (.goto 351, 3) := by decide +kernel
theorem dL_law_1131 : decode cL_law 1131 = .ok (.aload_n 1, 1) := by decide +kernel
theorem dL_law_1132 : decode cL_law 1132 = .ok (.aload_n 0, 1) := by decide +kernel
theorem dL_law_1133 : decode cL_law 1133 = .ok (.iload 4, 2) := by decide +kernel
theorem dL_law_1135 : decode cL_law 1135 = .ok (.iconst 1, 1) := by decide +kernel
theorem dL_law_1136 : decode cL_law 1136 = .ok (.iadd, 1) := by decide +kernel
theorem dL_law_1137 : decode cL_law 1137 = .ok (.iaload, 1) := by decide +kernel
theorem dL_law_1138 : decode cL_law 1138 = .ok (.aload_n 3, 1) := by decide +kernel
theorem dL_law_1139 : decode cL_law 1139 = .ok (.invokestatic 153, 3) := by decide +kernel
theorem dL_law_1142 : decode cL_law 1142 = .ok (.istore 5, 2) := by decide +kernel
theorem dL_law_1144 : decode cL_law 1144 = .ok (.aload_n 2, 1) := by decide +kernel
theorem dL_law_1145 : decode cL_law 1145 = .ok (.aload_n 0, 1) := by decide +kernel
theorem dL_law_1146 : decode cL_law 1146 = .ok (.iload 4, 2) := by decide +kernel
theorem dL_law_1148 : decode cL_law 1148 = .ok (.iconst 1, 1) := by decide +kernel
theorem dL_law_1149 : decode cL_law 1149 = .ok (.iadd, 1) := by decide +kernel
theorem dL_law_1150 : decode cL_law 1150 = .ok (.iaload, 1) := by decide +kernel
theorem dL_law_1151 : decode cL_law 1151 = .ok (.invokevirtual 155, 3) := by decide +kernel
theorem dL_law_1154 : decode cL_law 1154 = .ok (.istore 6, 2) := by decide +kernel
theorem dL_law_1156 : decode cL_law 1156 = .ok (.aload_n 2, 1) := by decide +kernel
theorem dL_law_1157 : decode cL_law 1157 = .ok (.invokevirtual 91, 3) := by decide +kernel
theorem dL_law_1160 : decode cL_law 1160 = .ok (.iload 5, 2) := by decide +kernel
theorem dL_law_1162 : decode cL_law 1162 = .ok (.if_icmp .eq 5, 3) := by decide +kernel
theorem dL_law_1165 : decode cL_law 1165 = .ok (.iconst 0, 1) := by decide +kernel
theorem dL_law_1166 : decode cL_law 1166 = .ok (.ireturn, 1) := by decide +kernel
theorem dL_law_1167 : decode cL_law 1167 = .ok (.iload 5, 2) := by decide +kernel
theorem dL_law_1169 : decode cL_law 1169 = .ok (.ifCond .ne 15, 3) := by decide +kernel
theorem dL_law_1172 : decode cL_law 1172 = .ok (.aload_n 3, 1) := by decide +kernel
theorem dL_law_1173 : decode cL_law 1173 = .ok (.iconst 0, 1) := by decide +kernel
theorem dL_law_1174 : decode cL_law 1174 = .ok (.laload, 1) := by decide +kernel
theorem dL_law_1175 : decode cL_law 1175 = .ok (.iload 6, 2) := by decide +kernel
theorem dL_law_1177 : decode cL_law 1177 = .ok (.i2l, 1) := by decide +kernel
theorem dL_law_1178 : decode cL_law 1178 = .ok (.lcmp, 1) := by decide +kernel
theorem dL_law_1179 : decode cL_law 1179 = .ok (.ifCond .eq 5, 3) := by decide +kernel
theorem dL_law_1182 : decode cL_law 1182 = .ok (.iconst 0, 1) := by decide +kernel
theorem dL_law_1183 : decode cL_law 1183 = .ok (.ireturn, 1) := by decide +kernel
theorem dL_law_1184 : decode cL_law 1184 = .ok (.goto 295, 3) := by decide +kernel
theorem dL_law_1187 : decode cL_law 1187 = .ok (.aload_n 1, 1) := by decide +kernel
theorem dL_law_1188 : decode cL_law 1188 = .ok (.aload_n 0, 1) := by decide +kernel
theorem dL_law_1189 : decode cL_law 1189 = .ok (.iload 4, 2) := by decide +kernel
theorem dL_law_1191 : decode cL_law 1191 = .ok (.iconst 1, 1) := by decide +kernel
theorem dL_law_1192 : decode cL_law 1192 = .ok (.iadd, 1) := by decide +kernel
theorem dL_law_1193 : decode cL_law 1193 = .ok (.iaload, 1) := by decide +kernel
theorem dL_law_1194 : decode cL_law 1194 = .ok (.aload_n 3, 1) := by decide +kernel
theorem dL_law_1195 : decode cL_law 1195 = .ok (.invokestatic 156, 3) := by decide +kernel
theorem dL_law_1198 : decode cL_law 1198 = .ok (.istore 5, 2) := by decide +kernel
theorem dL_law_1200 : decode cL_law 1200 = .ok (.aload_n 2, 1) := by decide +kernel
theorem dL_law_1201 : decode cL_law 1201 = .ok (.aload_n 0, 1) := by decide +kernel
theorem dL_law_1202 : decode cL_law 1202 = .ok (.iload 4, 2) := by decide +kernel
theorem dL_law_1204 : decode cL_law 1204 = .ok (.iconst 1, 1) := by decide +kernel
theorem dL_law_1205 : decode cL_law 1205 = .ok (.iadd, 1) := by decide +kernel
theorem dL_law_1206 : decode cL_law 1206 = .ok (.iaload, 1) := by decide +kernel
theorem dL_law_1207 : decode cL_law 1207 = .ok (.invokevirtual 158, 3) := by decide +kernel
theorem dL_law_1210 : decode cL_law 1210 = .ok (.istore 6, 2) := by decide +kernel
theorem dL_law_1212 : decode cL_law 1212 = .ok (.aload_n 2, 1) := by decide +kernel
theorem dL_law_1213 : decode cL_law 1213 = .ok (.invokevirtual 91, 3) := by decide +kernel
theorem dL_law_1216 : decode cL_law 1216 = .ok (.iload 5, 2) := by decide +kernel
theorem dL_law_1218 : decode cL_law 1218 = .ok (.if_icmp .eq 5, 3) := by decide +kernel
theorem dL_law_1221 : decode cL_law 1221 = .ok (.iconst 0, 1) := by decide +kernel
theorem dL_law_1222 : decode cL_law 1222 = .ok (.ireturn, 1) := by decide +kernel
theorem dL_law_1223 : decode cL_law 1223 = .ok (.iload 5, 2) := by decide +kernel
theorem dL_law_1225 : decode cL_law 1225 = .ok (.ifCond .ne 15, 3) := by decide +kernel
theorem dL_law_1228 : decode cL_law 1228 = .ok (.aload_n 3, 1) := by decide +kernel
theorem dL_law_1229 : decode cL_law 1229 = .ok (.iconst 0, 1) := by decide +kernel
theorem dL_law_1230 : decode cL_law 1230 = .ok (.laload, 1) := by decide +kernel
theorem dL_law_1231 : decode cL_law 1231 = .ok (.iload 6, 2) := by decide +kernel
theorem dL_law_1233 : decode cL_law 1233 = .ok (.i2l, 1) := by decide +kernel
theorem dL_law_1234 : decode cL_law 1234 = .ok (.lcmp, 1) := by decide +kernel
theorem dL_law_1235 : decode cL_law 1235 = .ok (.ifCond .eq 5, 3) := by decide +kernel
theorem dL_law_1238 : decode cL_law 1238 = .ok (.iconst 0, 1) := by decide +kernel
theorem dL_law_1239 : decode cL_law 1239 = .ok (.ireturn, 1) := by decide +kernel
theorem dL_law_1240 : decode cL_law 1240 = .ok (.goto 239, 3) := by decide +kernel
theorem dL_law_1243 : decode cL_law 1243 = .ok (.aload_n 1, 1) := by decide +kernel
theorem dL_law_1244 : decode cL_law 1244 = .ok (.aload_n 0, 1) := by decide +kernel
theorem dL_law_1245 : decode cL_law 1245 = .ok (.iload 4, 2) := by decide +kernel
theorem dL_law_1247 : decode cL_law 1247 = .ok (.iconst 1, 1) := by decide +kernel
theorem dL_law_1248 : decode cL_law 1248 = .ok (.iadd, 1) := by decide +kernel
theorem dL_law_1249 : decode cL_law 1249 = .ok (.iaload, 1) := by decide +kernel
theorem dL_law_1250 : decode cL_law 1250 = .ok (.aload_n 3, 1) := by decide +kernel
theorem dL_law_1251 : decode cL_law 1251 = .ok (.invokestatic 159, 3) := by decide +kernel
theorem dL_law_1254 : decode cL_law 1254 = .ok (.istore 5, 2) := by decide +kernel
theorem dL_law_1256 : decode cL_law 1256 = .ok (.aload_n 2, 1) := by decide +kernel
theorem dL_law_1257 : decode cL_law 1257 = .ok (.aload_n 0, 1) := by decide +kernel
theorem dL_law_1258 : decode cL_law 1258 = .ok (.iload 4, 2) := by decide +kernel
theorem dL_law_1260 : decode cL_law 1260 = .ok (.iconst 1, 1) := by decide +kernel
theorem dL_law_1261 : decode cL_law 1261 = .ok (.iadd, 1) := by decide +kernel
theorem dL_law_1262 : decode cL_law 1262 = .ok (.iaload, 1) := by decide +kernel
theorem dL_law_1263 : decode cL_law 1263 = .ok (.invokevirtual 161, 3) := by decide +kernel
theorem dL_law_1266 : decode cL_law 1266 = .ok (.istore 6, 2) := by decide +kernel
theorem dL_law_1268 : decode cL_law 1268 = .ok (.aload_n 2, 1) := by decide +kernel
theorem dL_law_1269 : decode cL_law 1269 = .ok (.invokevirtual 91, 3) := by decide +kernel
theorem dL_law_1272 : decode cL_law 1272 = .ok (.iload 5, 2) := by decide +kernel
theorem dL_law_1274 : decode cL_law 1274 = .ok (.if_icmp .eq 5, 3) := by decide +kernel
theorem dL_law_1277 : decode cL_law 1277 = .ok (.iconst 0, 1) := by decide +kernel
theorem dL_law_1278 : decode cL_law 1278 = .ok (.ireturn, 1) := by decide +kernel
theorem dL_law_1279 : decode cL_law 1279 = .ok (.iload 5, 2) := by decide +kernel
theorem dL_law_1281 : decode cL_law 1281 = .ok (.ifCond .ne 15, 3) := by decide +kernel
theorem dL_law_1284 : decode cL_law 1284 = .ok (.aload_n 3, 1) := by decide +kernel
theorem dL_law_1285 : decode cL_law 1285 = .ok (.iconst 0, 1) := by decide +kernel
theorem dL_law_1286 : decode cL_law 1286 = .ok (.laload, 1) := by decide +kernel
theorem dL_law_1287 : decode cL_law 1287 = .ok (.iload 6, 2) := by decide +kernel
theorem dL_law_1289 : decode cL_law 1289 = .ok (.i2l, 1) := by decide +kernel
theorem dL_law_1290 : decode cL_law 1290 = .ok (.lcmp, 1) := by decide +kernel
theorem dL_law_1291 : decode cL_law 1291 = .ok (.ifCond .eq 5, 3) := by decide +kernel
theorem dL_law_1294 : decode cL_law 1294 = .ok (.iconst 0, 1) := by decide +kernel
theorem dL_law_1295 : decode cL_law 1295 = .ok (.ireturn, 1) := by decide +kernel
theorem dL_law_1296 : decode cL_law 1296 = .ok (.goto 183, 3) := by decide +kernel
theorem dL_law_1299 : decode cL_law 1299 = .ok (.aload_n 1, 1) := by decide +kernel
theorem dL_law_1300 : decode cL_law 1300 = .ok (.invokevirtual 162, 3) := by decide +kernel
theorem dL_law_1303 : decode cL_law 1303 = .ok (.aload_n 2, 1) := by decide +kernel
theorem dL_law_1304 : decode cL_law 1304 = .ok (.invokevirtual 165, 3) := by decide +kernel
theorem dL_law_1307 : decode cL_law 1307 = .ok (.if_icmp .eq 172, 3) := by decide +kernel
theorem dL_law_1310 : decode cL_law 1310 = .ok (.iconst 0, 1) := by decide +kernel
theorem dL_law_1311 : decode cL_law 1311 = .ok (.ireturn, 1) := by decide +kernel
theorem dL_law_1312 : decode cL_law 1312 = .ok (.aload_n 1, 1) := by decide +kernel
theorem dL_law_1313 : decode cL_law 1313 = .ok (.aload_n 0, 1) := by decide +kernel
theorem dL_law_1314 : decode cL_law 1314 = .ok (.iload 4, 2) := by decide +kernel
theorem dL_law_1316 : decode cL_law 1316 = .ok (.iconst 1, 1) := by decide +kernel
theorem dL_law_1317 : decode cL_law 1317 = .ok (.iadd, 1) := by decide +kernel
theorem dL_law_1318 : decode cL_law 1318 = .ok (.iaload, 1) := by decide +kernel
theorem dL_law_1319 : decode cL_law 1319 = .ok (.aload_n 3, 1) := by decide +kernel
theorem dL_law_1320 : decode cL_law 1320 = .ok (.invokestatic 166, 3) := by decide +kernel
theorem dL_law_1323 : decode cL_law 1323 = .ok (.istore 5, 2) := by decide +kernel
theorem dL_law_1325 : decode cL_law 1325 = .ok (.aload_n 2, 1) := by decide +kernel
theorem dL_law_1326 : decode cL_law 1326 = .ok (.aload_n 0, 1) := by decide +kernel
theorem dL_law_1327 : decode cL_law 1327 = .ok (.iload 4, 2) := by decide +kernel
theorem dL_law_1329 : decode cL_law 1329 = .ok (.iconst 1, 1) := by decide +kernel
theorem dL_law_1330 : decode cL_law 1330 = .ok (.iadd, 1) := by decide +kernel
theorem dL_law_1331 : decode cL_law 1331 = .ok (.iaload, 1) := by decide +kernel
theorem dL_law_1332 : decode cL_law 1332 = .ok (.invokevirtual 168, 3) := by decide +kernel
theorem dL_law_1335 : decode cL_law 1335 = .ok (.istore 6, 2) := by decide +kernel
theorem dL_law_1337 : decode cL_law 1337 = .ok (.aload_n 2, 1) := by decide +kernel
theorem dL_law_1338 : decode cL_law 1338 = .ok (.invokevirtual 91, 3) := by decide +kernel
theorem dL_law_1341 : decode cL_law 1341 = .ok (.iload 5, 2) := by decide +kernel
theorem dL_law_1343 : decode cL_law 1343 = .ok (.if_icmp .eq 5, 3) := by decide +kernel
theorem dL_law_1346 : decode cL_law 1346 = .ok (.iconst 0, 1) := by decide +kernel
theorem dL_law_1347 : decode cL_law 1347 = .ok (.ireturn, 1) := by decide +kernel
theorem dL_law_1348 : decode cL_law 1348 = .ok (.iload 5, 2) := by decide +kernel
theorem dL_law_1350 : decode cL_law 1350 = .ok (.ifCond .ne 15, 3) := by decide +kernel
theorem dL_law_1353 : decode cL_law 1353 = .ok (.aload_n 3, 1) := by decide +kernel
theorem dL_law_1354 : decode cL_law 1354 = .ok (.iconst 0, 1) := by decide +kernel
theorem dL_law_1355 : decode cL_law 1355 = .ok (.laload, 1) := by decide +kernel
theorem dL_law_1356 : decode cL_law 1356 = .ok (.iload 6, 2) := by decide +kernel
theorem dL_law_1358 : decode cL_law 1358 = .ok (.i2l, 1) := by decide +kernel
theorem dL_law_1359 : decode cL_law 1359 = .ok (.lcmp, 1) := by decide +kernel
theorem dL_law_1360 : decode cL_law 1360 = .ok (.ifCond .eq 5, 3) := by decide +kernel
theorem dL_law_1363 : decode cL_law 1363 = .ok (.iconst 0, 1) := by decide +kernel
theorem dL_law_1364 : decode cL_law 1364 = .ok (.ireturn, 1) := by decide +kernel
theorem dL_law_1365 : decode cL_law 1365 = .ok (.goto 114, 3) := by decide +kernel
theorem dL_law_1368 : decode cL_law 1368 = .ok (.aload_n 1, 1) := by decide +kernel
theorem dL_law_1369 : decode cL_law 1369 = .ok (.aload_n 0, 1) := by decide +kernel
theorem dL_law_1370 : decode cL_law 1370 = .ok (.iload 4, 2) := by decide +kernel
theorem dL_law_1372 : decode cL_law 1372 = .ok (.iconst 1, 1) := by decide +kernel
theorem dL_law_1373 : decode cL_law 1373 = .ok (.iadd, 1) := by decide +kernel
theorem dL_law_1374 : decode cL_law 1374 = .ok (.iaload, 1) := by decide +kernel
theorem dL_law_1375 : decode cL_law 1375 = .ok (.aload_n 3, 1) := by decide +kernel
theorem dL_law_1376 : decode cL_law 1376 = .ok (.invokestatic 169, 3) := by decide +kernel
theorem dL_law_1379 : decode cL_law 1379 = .ok (.istore 5, 2) := by decide +kernel
theorem dL_law_1381 : decode cL_law 1381 = .ok (.aload_n 2, 1) := by decide +kernel
theorem dL_law_1382 : decode cL_law 1382 = .ok (.aload_n 0, 1) := by decide +kernel
theorem dL_law_1383 : decode cL_law 1383 = .ok (.iload 4, 2) := by decide +kernel
theorem dL_law_1385 : decode cL_law 1385 = .ok (.iconst 1, 1) := by decide +kernel
theorem dL_law_1386 : decode cL_law 1386 = .ok (.iadd, 1) := by decide +kernel
theorem dL_law_1387 : decode cL_law 1387 = .ok (.iaload, 1) := by decide +kernel
theorem dL_law_1388 : decode cL_law 1388 = .ok (.invokevirtual 171, 3) := by decide +kernel
theorem dL_law_1391 : decode cL_law 1391 = .ok (.istore 6, 2) := by decide +kernel
theorem dL_law_1393 : decode cL_law 1393 = .ok (.aload_n 2, 1) := by decide +kernel
theorem dL_law_1394 : decode cL_law 1394 = .ok (.invokevirtual 91, 3) := by decide +kernel
theorem dL_law_1397 : decode cL_law 1397 = .ok (.iload 5, 2) := by decide +kernel
theorem dL_law_1399 : decode cL_law 1399 = .ok (.if_icmp .eq 5, 3) := by decide +kernel
theorem dL_law_1402 : decode cL_law 1402 = .ok (.iconst 0, 1) := by decide +kernel
theorem dL_law_1403 : decode cL_law 1403 = .ok (.ireturn, 1) := by decide +kernel
theorem dL_law_1404 : decode cL_law 1404 = .ok (.iload 5, 2) := by decide +kernel
theorem dL_law_1406 : decode cL_law 1406 = .ok (.ifCond .ne 15, 3) := by decide +kernel
theorem dL_law_1409 : decode cL_law 1409 = .ok (.aload_n 3, 1) := by decide +kernel
theorem dL_law_1410 : decode cL_law 1410 = .ok (.iconst 0, 1) := by decide +kernel
theorem dL_law_1411 : decode cL_law 1411 = .ok (.laload, 1) := by decide +kernel
theorem dL_law_1412 : decode cL_law 1412 = .ok (.iload 6, 2) := by decide +kernel
theorem dL_law_1414 : decode cL_law 1414 = .ok (.i2l, 1) := by decide +kernel
theorem dL_law_1415 : decode cL_law 1415 = .ok (.lcmp, 1) := by decide +kernel
theorem dL_law_1416 : decode cL_law 1416 = .ok (.ifCond .eq 5, 3) := by decide +kernel
theorem dL_law_1419 : decode cL_law 1419 = .ok (.iconst 0, 1) := by decide +kernel
theorem dL_law_1420 : decode cL_law 1420 = .ok (.ireturn, 1) := by decide +kernel
theorem dL_law_1421 : decode cL_law 1421 = .ok (.goto 58, 3) := by decide +kernel
theorem dL_law_1424 : decode cL_law 1424 = .ok (.aload_n 1, 1) := by decide +kernel
theorem dL_law_1425 : decode cL_law 1425 = .ok (.invokevirtual 172, 3) := by decide +kernel
theorem dL_law_1428 : decode cL_law 1428 = .ok (.dstore 5, 2) := by decide +kernel
theorem dL_law_1430 : decode cL_law 1430 = .ok (.aload_n 2, 1) := by decide +kernel
theorem dL_law_1431 : decode cL_law 1431 = .ok (.invokevirtual 176, 3) := by decide +kernel
theorem dL_law_1434 : decode cL_law 1434 = .ok (.dstore 7, 2) := by decide +kernel
theorem dL_law_1436 : decode cL_law 1436 = .ok (.dload 5, 2) := by decide +kernel
theorem dL_law_1438 : decode cL_law 1438 = .ok (.dload 7, 2) := by decide +kernel
theorem dL_law_1440 : decode cL_law 1440 = .ok (.dcmp .l, 1) := by decide +kernel
theorem dL_law_1441 : decode cL_law 1441 = .ok (.ifCond .eq 21, 3) := by decide +kernel
theorem dL_law_1444 : decode cL_law 1444 = .ok (.dload 5, 2) := by decide +kernel
theorem dL_law_1446 : decode cL_law 1446 = .ok (.dload 5, 2) := by decide +kernel
theorem dL_law_1448 : decode cL_law 1448 = .ok (.dcmp .l, 1) := by decide +kernel
theorem dL_law_1449 : decode cL_law 1449 = .ok (.ifCond .eq 11, 3) := by decide +kernel
theorem dL_law_1452 : decode cL_law 1452 = .ok (.dload 7, 2) := by decide +kernel
theorem dL_law_1454 : decode cL_law 1454 = .ok (.dload 7, 2) := by decide +kernel
theorem dL_law_1456 : decode cL_law 1456 = .ok (.dcmp .l, 1) := by decide +kernel
theorem dL_law_1457 : decode cL_law 1457 = .ok (.ifCond .ne 5, 3) := by decide +kernel
theorem dL_law_1460 : decode cL_law 1460 = .ok (.iconst 0, 1) := by decide +kernel
theorem dL_law_1461 : decode cL_law 1461 = .ok (.ireturn, 1) := by decide +kernel
theorem dL_law_1462 : decode cL_law 1462 = .ok (.goto 17, 3) := by decide +kernel
theorem dL_law_1465 : decode cL_law 1465 = .ok (.aload_n 1, 1) := by decide +kernel
theorem dL_law_1466 : decode cL_law 1466 = .ok (.invokevirtual 177, 3) := by decide +kernel
theorem dL_law_1469 : decode cL_law 1469 = .ok (.aload_n 2, 1) := by decide +kernel
theorem dL_law_1470 : decode cL_law 1470 = .ok (.invokevirtual 181, 3) := by decide +kernel
theorem dL_law_1473 : decode cL_law 1473 = .ok (.lcmp, 1) := by decide +kernel
theorem dL_law_1474 : decode cL_law 1474 = .ok (.ifCond .eq 5, 3) := by decide +kernel
theorem dL_law_1477 : decode cL_law 1477 = .ok (.iconst 0, 1) := by decide +kernel
theorem dL_law_1478 : decode cL_law 1478 = .ok (.ireturn, 1) := by decide +kernel
theorem dL_law_1479 : decode cL_law 1479 = .ok (.iinc 4 3, 3) := by decide +kernel
theorem dL_law_1482 : decode cL_law 1482 = .ok (.goto (-1459), 3) := by decide +kernel
theorem dL_law_1485 : decode cL_law 1485 = .ok (.iconst 1, 1) := by decide +kernel
theorem dL_law_1486 : decode cL_law 1486 = .ok (.ireturn, 1) := by decide +kernel
end
section
/-! THE LAYER: worlds of numbered cells. A value's reference is a cell's number; ad tells where it lies. -/
abbrev AC : Type := (Nat × List Value) ⊕ (List Int32 ⊕ (List Int32 ⊕ (List Int64 ⊕ List (Option Nat))))
abbrev AS : Type := List AC
abbrev ac_o (ci : Nat) (fs : List Value) : AC := .inl (ci, fs)
abbrev ac_i (l : List Int32) : AC := .inr (.inl l)
abbrev ac_z (l : List Int32) : AC := .inr (.inr (.inl l))
abbrev ac_j (l : List Int64) : AC := .inr (.inr (.inr (.inl l)))
abbrev ac_r (l : List (Option Nat)) : AC := .inr (.inr (.inr (.inr l)))
abbrev AG : Type := Launch × va_G × (ClassId × ClassId × ClassId × ClassId) × Nat × Nat × (Nat → Int32)
abbrev AM : Type := String × ByteArray × Nat × Option FieldType × Bool
abbrev AR : Type := Option Value ⊕ String
def ag_tys (g : AG) : List (ClassId × FieldType) := [(g.2.2.1.1, .int), (g.2.2.1.2.1, .boolean), (g.2.2.1.2.2.1, .long), (g.2.2.1.2.2.2, .object "DuctRake$State")]
def ag_A (g : AG) : Nat → Prop := fun q => g.2.2.2.1 ≤ q
def cv (ad : Nat → Nat) (v : Value) : Value := match v with
  | .ref k => .ref (ad k)
  | w => w
def ce (g : AG) (ad : Nat → Nat) (c : AC) : va_E := match c with
  | .inl o => .inr (o.1, o.2.map (cv ad))
  | .inr (.inl l) => .inl (g.2.2.1.1, l.length, .inl (fun j => l.getD j 0))
  | .inr (.inr (.inl l)) => .inl (g.2.2.1.2.1, l.length, .inl (fun j => l.getD j 0))
  | .inr (.inr (.inr (.inl l))) => .inl (g.2.2.1.2.2.1, l.length, .inr (.inl (fun j => l.getD j 0)))
  | .inr (.inr (.inr (.inr l))) => .inl (g.2.2.1.2.2.2, l.length, .inr (.inr (.inr (.inr (fun j => (l.getD j none).map ad)))))
def wd (g : AG) (ad : Nat → Nat) (σ : AS) : va_W := σ.mapIdx (fun k c => (ad k, ce g ad c))
def Rep (g : AG) (ad : Nat → Nat) (σ : AS) (H : Heap) : Prop := va_P g.2.1 vwCl (wd g ad σ) H ∧ va_D (ag_A g) (wd g ad σ)
/-- arrays that are only read: the script, the two tables -/
def ro (g : AG) (i : Nat) : Option (Nat × (Nat → Int32)) :=
  if i = 1000000 then some (g.2.2.2.2.1, g.2.2.2.2.2) else if i = 1000001 then some (5, fun j => [8000, 40, 0, 50, 5].getD j 0) else if i = 1000002 then some (5, fun j => [20000, 100, 2000, 100, 50].getD j 0) else none
def GE (g : AG) (ad : Nat → Nat) (U : State) : Prop :=
  va_K g.2.1 vwCl (ag_tys g) U ∧ g.2.2.2.1 ≤ U.heap.size ∧ (∀ i n f, ro g i = some (n, f) → va_T .int (ad i) n (fun j => .int (f j)) (ag_A g) U U.heap)
  ∧ va_Z "DuctRake" "FIRST_VALUES" "[I" (.ref (ad 1000001)) (ag_A g) U U.heap ∧ va_Z "DuctRake" "MOST_VALUES" "[I" (.ref (ad 1000002)) (ag_A g) U U.heap
  ∧ vx_Zq Bundle.tN "UNASSIGNED_STACK" Bundle.steD (ag_A g) U U.heap ∧ vx_Zq Bundle.tN "SUPPRESSED_SENTINEL" Bundle.listD (ag_A g) U U.heap
  ∧ va_Nw (.methodLinkNest RX9 25 yX4_init "DuctRake") U ∧ va_Nw (.methodLinkNest RX9 35 yX6_init "DuctRake") U ∧ va_Nw (.methodLinkNest RX9 42 yX7_init "DuctRake") U ∧ va_Nw (.methodLinkNest RX5 44 yX1_init "DuctRake") U
  ∧ va_Nw (.fieldLinkNest RX5 18 "DuctRake" "FIRST_VALUES" "[I" "DuctRake") U ∧ va_Nw (.castable "[I" "java/lang/Cloneable") U ∧ g.1.stackTraces = false
theorem cv_cat (ad : Nat → Nat) (v : Value) : (cv ad v).category = v.category := by cases v <;> rfl
theorem wd_get {g : AG} {ad : Nat → Nat} {σ : AS} {k : Nat} {c : AC} (h : σ[k]? = some c) : (wd g ad σ)[k]? = some (ad k, ce g ad c) := by
  unfold wd
  rw [List.getElem?_mapIdx, h]; rfl
theorem wd_set (g : AG) (ad : Nat → Nat) (σ : AS) (k : Nat) (c : AC) : wd g ad (σ.set k c) = (wd g ad σ).set k (ad k, ce g ad c) := by
  unfold wd
  rw [List.mapIdx_set]
theorem getD_set_upd (l : List Int32) (i : Nat) (x : Int32) (h : i < l.length) : upd (fun j => l.getD j 0) i x = (fun j => (l.set i x).getD j 0) := by
  funext j
  unfold upd
  by_cases hj : j = i
  · subst hj
    simp [h]
  · rw [if_neg hj]
    simp [List.getD_eq_getElem?_getD, List.getElem?_set_ne (Ne.symm hj)]
theorem getD_set_updL (l : List Int64) (i : Nat) (x : Int64) (h : i < l.length) : vp_updL (fun j => l.getD j 0) i x = (fun j => (l.set i x).getD j 0) := by
  funext j
  unfold vp_updL
  by_cases hj : j = i
  · subst hj
    simp [h]
  · rw [if_neg hj]
    simp [List.getD_eq_getElem?_getD, List.getElem?_set_ne (Ne.symm hj)]
theorem getD_set_updR (ad : Nat → Nat) (l : List (Option Nat)) (i : Nat) (x : Nat) (h : i < l.length) : va_up (fun j => (l.getD j none).map ad) i (some (ad x)) = (fun j => ((l.set i (some x)).getD j none).map ad) := by
  funext j
  unfold va_up
  by_cases hj : j = i
  · subst hj
    simp [h]
  · rw [if_neg hj]
    simp [List.getD_eq_getElem?_getD, List.getElem?_set_ne (Ne.symm hj)]
theorem ce_i (g : AG) (ad : Nat → Nat) (l : List Int32) (i : Nat) (x : Int32) (h : i < l.length) : ce g ad (ac_i (l.set i x)) = .inl (g.2.2.1.1, l.length, .inl (upd (fun j => l.getD j 0) i x)) := by
  rw [getD_set_upd l i x h]
  show (Sum.inl (_, (l.set i x).length, _) : va_E) = _
  rw [List.length_set]
theorem ce_z (g : AG) (ad : Nat → Nat) (l : List Int32) (i : Nat) (x : Int32) (h : i < l.length) : ce g ad (ac_z (l.set i x)) = .inl (g.2.2.1.2.1, l.length, .inl (upd (fun j => l.getD j 0) i x)) := by
  rw [getD_set_upd l i x h]
  show (Sum.inl (_, (l.set i x).length, _) : va_E) = _
  rw [List.length_set]
theorem ce_j (g : AG) (ad : Nat → Nat) (l : List Int64) (i : Nat) (x : Int64) (h : i < l.length) : ce g ad (ac_j (l.set i x)) = .inl (g.2.2.1.2.2.1, l.length, .inr (.inl (vp_updL (fun j => l.getD j 0) i x))) := by
  rw [getD_set_updL l i x h]
  show (Sum.inl (_, (l.set i x).length, _) : va_E) = _
  rw [List.length_set]
theorem ce_r (g : AG) (ad : Nat → Nat) (l : List (Option Nat)) (i : Nat) (x : Nat) (h : i < l.length) : ce g ad (ac_r (l.set i (some x))) = .inl (g.2.2.1.2.2.2, l.length, .inr (.inr (.inr (.inr (va_up (fun j => (l.getD j none).map ad) i (some (ad x))))))) := by
  rw [getD_set_updR ad l i x h]
  show (Sum.inl (_, (l.set i (some x)).length, _) : va_E) = _
  rw [List.length_set]
/-- the tables' words that any caller may hand on -/
def aw_all : List Cond := lw_tbl.filter goodWord
theorem aw_in {w : Cond} (h : w ∈ lw_tbl) (hg : goodWord w = true) : w ∈ aw_all := List.mem_filter.mpr ⟨h, hg⟩
theorem aw_tb {w : Cond} (h : w ∈ aw_all) : w ∈ lw_tbl := (List.mem_filter.mp h).1
theorem aw_good {ws : List Cond} (h : ∀ w ∈ ws, w ∈ aw_all) : GoodIn aw_all ws := fun w hw => ⟨h w hw, good_of_word (List.mem_filter.mp (h w hw)).2⟩
theorem aw_lay {C : String} {T : u_T} {N : Nat} (h : ∀ w ∈ u_ws C T N, w ∈ lw_tbl) : ∀ w ∈ u_ws C T N, w ∈ aw_all := by
  intro w hw
  refine aw_in (h w hw) ?_
  unfold u_ws at hw
  obtain ⟨k, -, hk⟩ := List.mem_map.mp hw
  rw [← hk]
  unfold u_lay
  by_cases hf : (T k).2.2.2 = true
  · rw [if_pos hf]; rfl
  · rw [if_neg hf]; rfl
/-- the frame's own facts -/
def Cx (g : AG) (M : AM) (d : Nat) (ad : Nat → Nat) (p : Program) (R : Room) (s : State) (m : MethodId) (args : Array Value) (meth : Method) (c : Code) : Prop :=
  p.tables.exec = Jvm.exec ∧ c.code = M.2.1 ∧ c.maxLocals = M.2.2.1 ∧ s.vm.findClass M.1 = some m.cls ∧ (∀ w ∈ aw_all, w.before args s = true) ∧ GE g ad s ∧ meth.locks = false ∧ meth.sig.returnType = M.2.2.2.1 ∧ (M.2.2.2.2 = true → meth.name = "<init>") ∧ d ≤ R.frames ∧ 36 * d ≤ R.locals
/-- what the frame's ends owe -/
def AFin (g : AG) (M : AM) (ad0 : Nat → Nat) (n0 : Nat) (p : Program) (e : Env) (R : Room) (s : State) (m : MethodId) (args : Array Value) (below : List Frame) (meth : Method) (c : Code) (QQ : State → Prop) (mcT msT : Nat) (Q : AR → AS → Prop) : Prop :=
  ∀ (ad : Nat → Nat) (σ : AS) (H : Heap) (locs : List Loc) (cells slots : Nat), (mcT = 0 → ad = ad0) → (∀ k, k < n0 ∨ 1000000 ≤ k → ad k = ad0 k) → n0 ≤ σ.length → Rep g ad σ H → va_S (ag_A g) s.heap H locs → cells ≤ mcT → slots ≤ msT →
    (∀ (x : Int32) (pc : Nat) (ls : Array Slot) (ty : FieldType), Q (.inl (some (.int x))) σ → M.2.2.2.1 = some ty → narrow ty (.int x) = .int x → decode M.2.1 pc = .ok (.ireturn, 1) → W p g.1 e R s m args below meth c H locs cells slots QQ (F0 m pc ls [.int x]))
    ∧ (∀ (x : Int64) (pc : Nat) (ls : Array Slot), Q (.inl (some (.long x))) σ → M.2.2.2.1 = some .long → decode M.2.1 pc = .ok (.lreturn, 1) → W p g.1 e R s m args below meth c H locs cells slots QQ (F0 m pc ls [.long x]))
    ∧ (∀ (x : UInt64) (pc : Nat) (ls : Array Slot), Q (.inl (some (.double x))) σ → M.2.2.2.1 = some .double → decode M.2.1 pc = .ok (.dreturn, 1) → W p g.1 e R s m args below meth c H locs cells slots QQ (F0 m pc ls [.double x]))
    ∧ (∀ (x : Nat) (pc : Nat) (ls : Array Slot) (n : String), Q (.inl (some (.ref x))) σ → M.2.2.2.1 = some (.object n) → decode M.2.1 pc = .ok (.areturn, 1) → W p g.1 e R s m args below meth c H locs cells slots QQ (F0 m pc ls [.ref (ad x)]))
    ∧ (∀ (pc : Nat) (ls : Array Slot), Q (.inl none) σ → M.2.2.2.1 = none → decode M.2.1 pc = .ok (.return_, 1) → W p g.1 e R s m args below meth c H locs cells slots QQ (F0 m pc ls []))
/-- from this point of the method, with these locals, this stack, this world, and this much room to make cells: it ends as Q says -/
def AW (g : AG) (M : AM) (d : Nat) (pc : Nat) (L : List (Nat × Value)) (st : List Value) (σ : AS) (bc bs : Nat) (Q : AR → AS → Prop) : Prop :=
  ∀ (p : Program) (e : Env) (R : Room) (s : State) (m : MethodId) (args : Array Value) (below : List Frame) (meth : Method) (c : Code) (QQ : State → Prop) (mcT msT : Nat) (ad0 : Nat → Nat) (n0 : Nat), Cx g M d ad0 p R s m args meth c → AFin g M ad0 n0 p e R s m args below meth c QQ mcT msT Q →
  ∀ (ad : Nat → Nat) (H : Heap) (locs : List Loc) (cells slots : Nat) (ls : Array Slot), (mcT = 0 → ad = ad0) ∧ (∀ k, k < n0 ∨ 1000000 ≤ k → ad k = ad0 k) ∧ n0 ≤ σ.length ∧ cells + bc ≤ mcT ∧ slots + bs ≤ msT ∧ mcT ≤ R.cells ∧ msT ≤ R.slots → Rep g ad σ H → va_S (ag_A g) s.heap H locs → lv_has ls M.2.2.1 (L.map (fun q => (q.1, cv ad q.2))) →
  W p g.1 e R s m args below meth c H locs cells slots QQ (F0 m pc ls (st.map (cv ad)))
theorem aw_A {g : AG} {ad : Nat → Nat} {s : State} (h : GE g ad s) : ∀ q, s.heap.size ≤ q → ag_A g q := fun _ hq => Nat.le_trans h.2.1 hq
theorem aw_loc {ad : Nat → Nat} {L : List (Nat × Value)} {i n : Nat} {v : Value} (h : L[i]? = some (n, v)) : (L.map (fun q => (q.1, cv ad q.2)))[i]? = some (n, cv ad v) := by
  rw [List.getElem?_map, h]; rfl
theorem aw_fil {ad : Nat → Nat} {L : List (Nat × Value)} (f : Nat → Nat → Bool) : (L.map (fun q => (q.1, cv ad q.2))).filter (fun q => f q.1 q.2.category) = (L.filter (fun q => f q.1 q.2.category)).map (fun q => (q.1, cv ad q.2)) := by
  induction L with
  | nil => rfl
  | cons a L ih =>
    simp only [List.map_cons, List.filter_cons, cv_cat]
    by_cases h : f a.1 a.2.category = true
    · rw [if_pos h, if_pos h, List.map_cons, ih]
    · rw [if_neg h, if_neg h, ih]
section RULES
variable {g : AG} {M : AM} {d pc : Nat} {L : List (Nat × Value)} {st : List Value} {σ : AS} {bc bs : Nat} {Q : AR → AS → Prop}
/-- instructions of the stack alone -/
theorem aw_1 {pc' : Nat} {st' : List Value} (h : ∀ {p : Program} {e : Env} {R : Room} {s : State} {m : MethodId} {args : Array Value} {below : List Frame} {meth : Method} {c : Code} {QQ : State → Prop} {ad0 ad : Nat → Nat} {H : Heap} {locs : List Loc} {cells slots : Nat} {ls : Array Slot}, Cx g M d ad0 p R s m args meth c → lv_has ls M.2.2.1 (L.map (fun q => (q.1, cv ad q.2))) → W p g.1 e R s m args below meth c H locs cells slots QQ (F0 m pc' ls (st'.map (cv ad))) → W p g.1 e R s m args below meth c H locs cells slots QQ (F0 m pc ls (st.map (cv ad))))
    (k : AW g M d pc' L st' σ bc bs Q) : AW g M d pc L st σ bc bs Q := by
  intro p e R s m args below meth c QQ mcT msT ad0 n0 C F ad H locs cells slots ls hh hR hS hl
  exact h C hl (k p e R s m args below meth c QQ mcT msT ad0 n0 C F ad H locs cells slots ls hh hR hS hl)
/-- branches -/
theorem aw_2 {pc1 pc2 : Nat} {st1 st2 : List Value} {A B : Prop} (h : ∀ {p : Program} {e : Env} {R : Room} {s : State} {m : MethodId} {args : Array Value} {below : List Frame} {meth : Method} {c : Code} {QQ : State → Prop} {ad0 ad : Nat → Nat} {H : Heap} {locs : List Loc} {cells slots : Nat} {ls : Array Slot}, Cx g M d ad0 p R s m args meth c → (A → W p g.1 e R s m args below meth c H locs cells slots QQ (F0 m pc1 ls (st1.map (cv ad)))) → (B → W p g.1 e R s m args below meth c H locs cells slots QQ (F0 m pc2 ls (st2.map (cv ad)))) → W p g.1 e R s m args below meth c H locs cells slots QQ (F0 m pc ls (st.map (cv ad))))
    (k1 : A → AW g M d pc1 L st1 σ bc bs Q) (k2 : B → AW g M d pc2 L st2 σ bc bs Q) : AW g M d pc L st σ bc bs Q := by
  intro p e R s m args below meth c QQ mcT msT ad0 n0 C F ad H locs cells slots ls hh hR hS hl
  exact h C (fun a => k1 a p e R s m args below meth c QQ mcT msT ad0 n0 C F ad H locs cells slots ls hh hR hS hl) (fun b => k2 b p e R s m args below meth c QQ mcT msT ad0 n0 C F ad H locs cells slots ls hh hR hS hl)
/-- stores into locals -/
theorem aw_3 {pc' : Nat} {L' : List (Nat × Value)} {st' : List Value} (h : ∀ {p : Program} {e : Env} {R : Room} {s : State} {m : MethodId} {args : Array Value} {below : List Frame} {meth : Method} {c : Code} {QQ : State → Prop} {ad0 ad : Nat → Nat} {H : Heap} {locs : List Loc} {cells slots : Nat} {ls : Array Slot}, Cx g M d ad0 p R s m args meth c → lv_has ls M.2.2.1 (L.map (fun q => (q.1, cv ad q.2))) → (∀ ls' : Array Slot, lv_has ls' M.2.2.1 (L'.map (fun q => (q.1, cv ad q.2))) → W p g.1 e R s m args below meth c H locs cells slots QQ (F0 m pc' ls' (st'.map (cv ad)))) → W p g.1 e R s m args below meth c H locs cells slots QQ (F0 m pc ls (st.map (cv ad))))
    (k : AW g M d pc' L' st' σ bc bs Q) : AW g M d pc L st σ bc bs Q := by
  intro p e R s m args below meth c QQ mcT msT ad0 n0 C F ad H locs cells slots ls hh hR hS hl
  exact h C hl (fun ls' hl' => k p e R s m args below meth c QQ mcT msT ad0 n0 C F ad H locs cells slots ls' hh hR hS hl')
theorem aw_iconst {n : Int} {v : Int32} (hd : decode M.2.1 pc = .ok (.iconst n, 1)) (hv : Int32.ofInt n = v) (k : AW g M d (pc + 1) L (.int v :: st) σ bc bs Q) : AW g M d pc L st σ bc bs Q := aw_1 (fun C _ w => lv_iconst C.1 C.2.1 hd hv w) k
theorem aw_bipush {n : Int} {v : Int32} (hd : decode M.2.1 pc = .ok (.bipush n, 2)) (hv : (Int8.ofInt n).toInt32 = v) (k : AW g M d (pc + 2) L (.int v :: st) σ bc bs Q) : AW g M d pc L st σ bc bs Q := aw_1 (fun C _ w => lv_bipush C.1 C.2.1 hd hv w) k
theorem aw_sipush {n : Int} {v : Int32} (hd : decode M.2.1 pc = .ok (.sipush n, 3)) (hv : (Int16.ofInt n).toInt32 = v) (k : AW g M d (pc + 3) L (.int v :: st) σ bc bs Q) : AW g M d pc L st σ bc bs Q := aw_1 (fun C _ w => lv_sipush C.1 C.2.1 hd hv w) k
theorem aw_lconst {n : Fin 2} {v : Int64} (hd : decode M.2.1 pc = .ok (.lconst n, 1)) (hv : Int64.ofNat (n : Nat) = v) (k : AW g M d (pc + 1) L (.long v :: st) σ bc bs Q) : AW g M d pc L st σ bc bs Q := aw_1 (fun C _ w => lv_lconst C.1 C.2.1 hd hv w) k
theorem aw_iadd {x y : Int32} (hd : decode M.2.1 pc = .ok (.iadd, 1)) (k : AW g M d (pc + 1) L (.int (x + y) :: st) σ bc bs Q) : AW g M d pc L (.int y :: .int x :: st) σ bc bs Q := aw_1 (fun C _ w => lv_iadd C.1 C.2.1 hd w) k
theorem aw_isub {x y : Int32} (hd : decode M.2.1 pc = .ok (.isub, 1)) (k : AW g M d (pc + 1) L (.int (x - y) :: st) σ bc bs Q) : AW g M d pc L (.int y :: .int x :: st) σ bc bs Q := aw_1 (fun C _ w => lv_isub C.1 C.2.1 hd w) k
theorem aw_imul {x y : Int32} (hd : decode M.2.1 pc = .ok (.imul, 1)) (k : AW g M d (pc + 1) L (.int (x * y) :: st) σ bc bs Q) : AW g M d pc L (.int y :: .int x :: st) σ bc bs Q := aw_1 (fun C _ w => lv_imul C.1 C.2.1 hd w) k
theorem aw_idiv {x y : Int32} (hd : decode M.2.1 pc = .ok (.idiv, 1)) (hne : ¬ y = 0) (k : AW g M d (pc + 1) L (.int (x / y) :: st) σ bc bs Q) : AW g M d pc L (.int y :: .int x :: st) σ bc bs Q := aw_1 (fun C _ w => lv_idiv C.1 C.2.1 hd hne w) k
theorem aw_iload_n {j : Fin 4} {i n : Nat} {x : Int32} (hd : decode M.2.1 pc = .ok (.iload_n j, 1)) (hj : (j : Nat) = n) (hL : L[i]? = some (n, .int x)) (k : AW g M d (pc + 1) L (.int x :: st) σ bc bs Q) : AW g M d pc L st σ bc bs Q := aw_1 (fun C hl w => lv_iload_n C.1 C.2.1 hd hj (lv_at hl i (aw_loc hL)) w) k
theorem aw_aload_n {j : Fin 4} {i n : Nat} {x : Nat} (hd : decode M.2.1 pc = .ok (.aload_n j, 1)) (hj : (j : Nat) = n) (hL : L[i]? = some (n, .ref x)) (k : AW g M d (pc + 1) L (.ref x :: st) σ bc bs Q) : AW g M d pc L st σ bc bs Q := aw_1 (fun C hl w => lv_aload_n C.1 C.2.1 hd hj (lv_at hl i (aw_loc hL)) w) k
theorem aw_istore_n {j : Fin 4} {n : Nat} {x : Int32} {L' : List (Nat × Value)} (hd : decode M.2.1 pc = .ok (.istore_n j, 1)) (hj : (j : Nat) = n) (hn : n < M.2.2.1) (hL : (n, Value.int x) :: L.filter (fun q => !(q.1 == n) && !(q.1 + 1 == n && q.2.category == 2)) = L') (k : AW g M d (pc + 1) L' st σ bc bs Q) : AW g M d pc L (.int x :: st) σ bc bs Q :=
  aw_3 (fun {_ _ _ _ _ _ _ _ _ _ _ ad _ _ _ _ _} C hl w => lv_istore_n C.1 C.2.1 hd hj hl hn (by rw [aw_fil (ad := ad) (fun a b => !(a == n) && !(a + 1 == n && b == 2)), ← hL]; rfl) w) k
theorem aw_icmp_ge {x y : Int32} {off : Int} {tgt : Nat} (hd : decode M.2.1 pc = .ok (.if_icmp .ge off, 3)) (ht : (pc : Int) + off = (tgt : Int)) (k1 : y ≤ x → AW g M d tgt L st σ bc bs Q) (k2 : ¬ y ≤ x → AW g M d (pc + 3) L st σ bc bs Q) : AW g M d pc L (.int y :: .int x :: st) σ bc bs Q := aw_2 (fun C a b => lv_icmp_ge C.1 C.2.1 hd ht a b) k1 k2
theorem aw_goto {off : Int} {tgt : Nat} (hd : decode M.2.1 pc = .ok (.goto off, 3)) (ht : (pc : Int) + off = (tgt : Int)) (k : AW g M d tgt L st σ bc bs Q) : AW g M d pc L st σ bc bs Q := aw_1 (fun C _ w => lv_goto C.1 C.2.1 hd ht w) k
theorem aw_getfield {own ref C : String} {T : u_T} {N ci index a : Nat} {fs : List Value} {v : Value} (hd : decode M.2.1 pc = .ok (.getfield index, 3)) (hown : M.1 = own) (hc : vwCl[ci]? = some (C, T, N)) (hin : ∀ w ∈ u_ws C T N, w ∈ lw_tbl) (hs : σ[a]? = some (ac_o ci fs)) (i : Nat) (hi : i < N) (hlink : Cond.fieldLink own index (T i).1 (T i).2.1 (T i).2.2.1 ∈ lw_tbl) (hv : fs[i]? = some v) (k : AW g M d (pc + 3) L (v :: st) σ bc bs Q) : AW g M d pc L (.ref a :: st) σ bc bs Q := by
  intro p e R s m args below meth c QQ mcT msT ad0 n0 C' F ad H locs cells slots ls hh hR hS hl
  subst hown
  exact va_get C'.1 C'.2.1 C'.2.2.2.2.1 (aw_lay hin) C'.2.2.2.1 C'.2.2.2.2.2.1.1 hR.1 a (wd_get hs) hc i hi (C'.2.2.2.2.1 _ (aw_in hlink rfl)) (fun _ h9 => h9) (v := cv ad v) (by show (fs.map (cv ad))[i]? = _; rw [List.getElem?_map, hv]; rfl) hd (k p e R s m args below meth c QQ mcT msT ad0 n0 C' F ad H locs cells slots ls hh hR hS hl)
theorem aw_putfield {own ref C : String} {T : u_T} {N ci index a : Nat} {ty0 : Nat → FieldType} {fs fs' : List Value} {v : Value} (hd : decode M.2.1 pc = .ok (.putfield index, 3)) (hown : M.1 = own) (hc : vwCl[ci]? = some (C, T, N)) (hin : ∀ w ∈ u_ws C T N, w ∈ lw_tbl) (hty : ∀ k, k < N → parseFieldDescriptor (T k).2.2.1 = some (ty0 k)) (hnm : ∀ a, a < N → ∀ b, b < N → a ≠ b → (T a).2.1 ≠ (T b).2.1) (hs : σ[a]? = some (ac_o ci fs)) (i : Nat) (hi : i < N) (hlink : Cond.fieldLink own index (T i).1 (T i).2.1 (T i).2.2.1 ∈ lw_tbl) (hfin : (T i).2.2.2 = false) (hn : ∀ ad, narrow (ty0 i) (cv ad v) = cv ad v) (hfit : ∀ ad, fits (ty0 i) (cv ad v) = true) (hl : i < fs.length) (hfs : fs.set i v = fs') {σ' : AS} (hσ : σ.set a (ac_o ci fs') = σ') (k : AW g M d (pc + 3) L st σ' bc bs Q) : AW g M d pc L (v :: .ref a :: st) σ bc bs Q := by
  intro p e R s m args below meth c QQ mcT msT ad0 n0 C' F ad H locs cells slots ls hh hR hS hl9
  subst hown
  refine va_put C'.1 C'.2.1 C'.2.2.2.2.1 (aw_lay hin) ty0 hty hnm C'.2.2.2.1 C'.2.2.2.2.2.1.1 hR.1 hR.2 hS a (wd_get hs) hc i hi (C'.2.2.2.2.1 _ (aw_in hlink rfl)) (fun _ h9 => h9) hfin (hty i hi) (hn ad) (hfit ad) (by rw [List.length_map]; exact hl) hd (fun H1 locs1 hP hD hS1 => ?_)
  have he : (wd g ad σ).set a (ad a, .inr (ci, (fs.map (cv ad)).set i (cv ad v))) = wd g ad σ' := by
    rw [← hσ, wd_set, ← hfs]
    show _ = (wd g ad σ).set a (ad a, .inr (ci, (fs.set i v).map (cv ad)))
    rw [List.map_set]
  rw [he] at hP hD
  exact k p e R s m args below meth c QQ mcT msT ad0 n0 C' F ad H1 locs1 cells slots ls (by rw [← hσ, List.length_set]; exact hh) ⟨hP, hD⟩ hS1 hl9
theorem aw_iaload {a : Nat} {l : List Int32} {i : Int32} {x : Int32} (hd : decode M.2.1 pc = .ok (.iaload, 1)) (hs : σ[a]? = some (ac_i l)) (hin : vp_in i l.length) (hx : l.getD i.toNatClampNeg 0 = x) (k : AW g M d (pc + 1) L (.int x :: st) σ bc bs Q) : AW g M d pc L (.int i :: .ref a :: st) σ bc bs Q := by
  intro p e R s m args below meth c QQ mcT msT ad0 n0 C' F ad H locs cells slots ls hh hR hS hl
  subst hx
  exact va_iald C'.1 C'.2.1 C'.2.2.2.2.2.1.1 hR.1 a 0 (wd_get hs) rfl hin hd (k p e R s m args below meth c QQ mcT msT ad0 n0 C' F ad H locs cells slots ls hh hR hS hl)
theorem aw_iastore {a : Nat} {l l' : List Int32} {i : Int32} {x : Int32} {σ' : AS} (hd : decode M.2.1 pc = .ok (.iastore, 1)) (hs : σ[a]? = some (ac_i l)) (hin : vp_in i l.length) (hx : l.set i.toNatClampNeg x = l') (hσ : σ.set a (ac_i l') = σ') (k : AW g M d (pc + 1) L st σ' bc bs Q) : AW g M d pc L (.int x :: .int i :: .ref a :: st) σ bc bs Q := by
  intro p e R s m args below meth c QQ mcT msT ad0 n0 C' F ad H locs cells slots ls hh hR hS hl
  refine va_iast C'.1 C'.2.1 C'.2.2.2.2.2.1.1 hR.1 hR.2 hS a 0 (wd_get hs) rfl hin hd (fun H1 locs1 hP hD hS1 => ?_)
  rw [← ce_i g ad l _ x (by have := (vp_in_iff.mp hin); unfold vp_in at hin; omega), ← wd_set, hx, hσ] at hP hD
  exact k p e R s m args below meth c QQ mcT msT ad0 n0 C' F ad H1 locs1 cells slots ls (by rw [← hσ, List.length_set]; exact hh) ⟨hP, hD⟩ hS1 hl
theorem aw_alen {a : Nat} {l : List Int32} {v : Int32} (hd : decode M.2.1 pc = .ok (.arraylength, 1)) (hs : σ[a]? = some (ac_i l)) (hv : Int32.ofNat l.length = v) (k : AW g M d (pc + 1) L (.int v :: st) σ bc bs Q) : AW g M d pc L (.ref a :: st) σ bc bs Q := by
  intro p e R s m args below meth c QQ mcT msT ad0 n0 C' F ad H locs cells slots ls hh hR hS hl
  exact va_alen C'.1 C'.2.1 C'.2.2.2.2.2.1.1 hR.1 a 0 (wd_get hs) rfl hv hd (k p e R s m args below meth c QQ mcT msT ad0 n0 C' F ad H locs cells slots ls hh hR hS hl)
theorem aw_ireturn {x : Int32} {ty : FieldType} (hd : decode M.2.1 pc = .ok (.ireturn, 1)) (hty : M.2.2.2.1 = some ty) (hn : narrow ty (.int x) = .int x) (k : Q (.inl (some (.int x))) σ) : AW g M d pc L [.int x] σ bc bs Q := by
  intro p e R s m args below meth c QQ mcT msT ad0 n0 C' F ad H locs cells slots ls hh hR hS hl
  exact (F ad σ H locs cells slots hh.1 hh.2.1 hh.2.2.1 hR hS (by omega) (by omega)).1 x pc ls ty k hty hn hd
end RULES
theorem GE.same {g : AG} {ad : Nat → Nat} {u U : State} (hv : u.vm = U.vm) (hh : U.heap = u.heap) (h : GE g ad u) : GE g ad U := by
  obtain ⟨h1, h2, h3, h4, h5, h6, h7, h8, h9, h10, h11, h12, h13, h14⟩ := h
  have hA : u.vm.Alike U.vm := by rw [hv]; exact Vm.Alike.refl U.vm
  refine ⟨va_K.moved hA h1, by rw [hh]; exact h2, fun i n f q => by rw [hh]; exact va_T.moved hA (h3 i n f q), by rw [hh]; exact va_Z.moved hA h4, by rw [hh]; exact va_Z.moved hA h5, by rw [hh]; exact vx_Zq.moved hA h6, by rw [hh]; exact vx_Zq.moved hA h7, va_Nw.same rfl hv h8, va_Nw.same rfl hv h9, va_Nw.same rfl hv h10, va_Nw.same rfl hv h11, va_Nw.same rfl hv h12, va_Nw.same rfl hv h13, h14⟩
theorem GE.warm {g : AG} {ad ad' : Nat → Nat} {s U : State} {locs : List Loc} (hW : s.WarmedH U.vm) (hS : va_S (ag_A g) s.heap U.heap locs) (had : ∀ k, 1000000 ≤ k → ad' k = ad k) (h : GE g ad s) : GE g ad' U := by
  obtain ⟨h1, h2, h3, h4, h5, h6, h7, h8, h9, h10, h11, h12, h13, h14⟩ := h
  have hA := hW.alike
  have hk : ∀ a : Nat, a < s.heap.size → ¬ ag_A g a → U.heap[a]? = s.heap[a]? := hS.2.1
  refine ⟨va_K.moved hA h1, Nat.le_trans h2 hS.1, fun i n f q => ?_, ?_, ?_, vx_Zq.kept (vx_Zq.moved hA h6) hk, vx_Zq.kept (vx_Zq.moved hA h7) hk, va_Nw.warmM hW h8, va_Nw.warmM hW h9, va_Nw.warmM hW h10, va_Nw.warmM hW h11, va_Nw.warmF hW h12, va_Nw.warmC hW h13, h14⟩
  · have hi : 1000000 ≤ i := by
      unfold ro at q
      by_cases a1 : i = 1000000
      · omega
      · by_cases a2 : i = 1000001
        · omega
        · by_cases a3 : i = 1000002
          · omega
          · rw [if_neg a1, if_neg a2, if_neg a3] at q; cases q
    rw [had i hi]
    exact va_T.kept (va_T.moved hA (h3 i n f q)) hk
  · rw [had _ (by omega)]; exact va_Z.kept (va_Z.moved hA h4) hk
  · rw [had _ (by omega)]; exact va_Z.kept (va_Z.moved hA h5) hk
/-- a method's contract over numbered cells -/
def CQ (g : AG) (ad : Nat → Nat) (n bc : Nat) (Q : AR → AS → Prop) : Array Value → State → Outcome → State → Prop := fun _ st oc t =>
  (∃ (v : Option Value) (σ' : AS) (ad' : Nat → Nat), oc = .returned (v.map (cv ad')) ∧ Q (.inl v) σ' ∧ (bc = 0 → ad' = ad) ∧ (∀ k, k < n ∨ 1000000 ≤ k → ad' k = ad k) ∧ n ≤ σ'.length ∧ Rep g ad' σ' t.heap) ∧ va_F (ag_A g) st t
def wsM (y : MethodName) (M : AM) : List Cond := .code y M.2.1 M.2.2.1 M.2.2.2.1 :: aw_all
def CT (g : AG) (y : MethodName) (M : AM) (d bc bs : Nat) (av : List Value) (σ : AS) (Q : AR → AS → Prop) : Prop :=
  ∀ ad : Nat → Nat, Met g.1 y (wsM y M) ({ frames := d, cells := bc, slots := bs, locals := 36 * d }) (va_Pc (av.map (cv ad)) (fun U => GE g ad U ∧ Rep g ad σ U.heap)) (CQ g ad σ.length bc Q) bc bs (ag_A g)
theorem lv_args_map (ad : Nat → Nat) : ∀ (av : List Value) (i : Nat), lv_args i (av.map (cv ad)) = (lv_args i av).map (fun q => (q.1, cv ad q.2))
  | [], i => rfl
  | v :: av, i => by
    simp only [List.map_cons, lv_args, cv_cat, lv_args_map ad av]
theorem lg_sl_map (ad : Nat → Nat) : ∀ (av : List Value), (lg_sl (av.map (cv ad))).length = (lg_sl av).length
  | [] => rfl
  | v :: av => by
    have ih := lg_sl_map ad av
    cases v <;> simp_all [lg_sl, cv, Value.category]
set_option maxHeartbeats 1000000 in
theorem ct_of {g : AG} {y : MethodName} {M : AM} {d bc bs : Nat} {av : List Value} {σ : AS} {Q : AR → AS → Prop} {L : List (Nat × Value)} (hy : plainName y.cls = true) (hyc : y.cls = M.1) (hyi : M.2.2.2.2 = true → y.name = "<init>") (hlen : (lg_sl av).length ≤ M.2.2.1) (hL : lv_args 0 av = L) (k : AW g M d 0 L [] σ bc bs Q) : CT g y M d bc bs av σ Q := by
  intro ad
  refine Met.ofW (cc := M.2.1) (maxL := M.2.2.1) (ret := M.2.2.2.1) hy rfl ?_
  intro p e s m args below meth c s₁ B hml hv
  obtain ⟨rfl, hGE, hR⟩ := hv
  have hS : va_S (ag_A g) s.heap s.heap [] := va_S.rf
  have hown : s.vm.findClass M.1 = some m.cls := by rw [← hyc]; exact findClass_of_methodNamed B.named
  have C : Cx g M d ad p ({ frames := d, cells := bc, slots := bs, locals := 36 * d }) s m ((av.map (cv ad)).toArray) meth c := ⟨B.exec, B.bytes, hml, hown, fun w hw => atoms_spec (ws := wsM y M) B.pre w (List.mem_cons_of_mem _ hw), hGE, B.notSynchronized, B.returns, fun hi => (name_of_methodNamed B.named B.method).1.trans (hyi hi), Nat.le_refl _, Nat.le_refl _⟩
  have hl := lv_entry (av.map (cv ad)) (n := M.2.2.1) (by rw [lg_sl_map]; exact hlen)
  rw [lv_args_map, hL] at hl
  rw [lg_entry_eq]
  generalize (lg_sl (av.map (cv ad)) ++ List.replicate (M.2.2.1 - (lg_sl (av.map (cv ad))).length) Slot.unset).toArray = ls at hl ⊢
  refine k p e _ s m _ below meth c _ bc bs ad σ.length C ?_ ad s.heap [] 0 0 ls ⟨fun _ => rfl, fun _ _ => rfl, Nat.le_refl _, by omega, by omega, Nat.le_refl _, Nat.le_refl _⟩ hR hS hl
  intro ad' σ' H locs cells slots h1 h2 h3 hR' hS' hc hs
  have K : ∀ (v : Option Value), Q (.inl v) σ' → ∀ t : State, t.heap = H → CQ g ad σ.length bc Q ((av.map (cv ad)).toArray) s (.returned (v.map (cv ad'))) t := fun v hq t ht => ⟨⟨v, σ', ad', rfl, hq, h1, h2, h3, by rw [ht]; exact hR'⟩, hS'.F ht⟩
  refine ⟨fun x pc ls ty hq hr hn hd => ?_, fun x pc ls hq hr hd => ?_, fun x pc ls hq hr hd => ?_, fun x pc ls n hq hr hd => ?_, fun pc ls hq hr hd => ?_⟩
  · exact W.widen hc hs (W.zret C.1 C.2.1 (B.returns.trans hr) hn (fun t ht _ => K (some (.int x)) hq t ht) hS'.2.2 hd B.notSynchronized)
  · exact W.widen hc hs (W.lret C.1 C.2.1 (B.returns.trans hr) (fun t ht _ => K (some (.long x)) hq t ht) hS'.2.2 hd B.notSynchronized)
  · exact W.widen hc hs (W.dret C.1 C.2.1 (B.returns.trans hr) (fun t ht _ => K (some (.double x)) hq t ht) hS'.2.2 hd B.notSynchronized)
  · exact W.widen hc hs (W.aret C.1 C.2.1 (B.returns.trans hr) (Or.inl ⟨n, rfl⟩) (Or.inr ⟨ad' x, rfl⟩) (fun t ht _ => K (some (.ref x)) hq t ht) hS'.2.2 hd B.notSynchronized)
  · exact W.widen hc hs (W.vret C.1 C.2.1 (B.returns.trans hr) (fun t ht _ => K none hq t ht) hS'.2.2 hd B.notSynchronized)
end
section
def vok (n : Nat) (v : Value) : Bool := match v with
  | .ref k => decide (k < n) || decide (1000000 ≤ k)
  | _ => true
def ook (n : Nat) (o : Option Nat) : Bool := match o with
  | some k => decide (k < n) || decide (1000000 ≤ k)
  | none => true
def cok (n : Nat) (c : AC) : Bool := match c with
  | .inl o => o.2.all (vok n)
  | .inr (.inr (.inr (.inr l))) => l.all (ook n)
  | _ => true
def aok (n : Nat) (L : List (Nat × Value)) (st : List Value) : Bool := L.all (fun q => vok n q.2) && st.all (vok n)
theorem cv_ext {n : Nat} {ad ad' : Nat → Nat} (h : ∀ k, k < n ∨ 1000000 ≤ k → ad' k = ad k) {v : Value} (hv : vok n v = true) : cv ad' v = cv ad v := by
  cases v with
  | ref k =>
    show Value.ref (ad' k) = Value.ref (ad k)
    rw [h k (by simpa [vok] using hv)]
  | _ => rfl
theorem cv_extL {n : Nat} {ad ad' : Nat → Nat} (h : ∀ k, k < n ∨ 1000000 ≤ k → ad' k = ad k) {l : List Value} (hl : l.all (vok n) = true) : l.map (cv ad') = l.map (cv ad) := by
  refine List.map_congr_left (fun v hv => cv_ext h (List.all_eq_true.mp hl v hv))
theorem cv_extP {n : Nat} {ad ad' : Nat → Nat} (h : ∀ k, k < n ∨ 1000000 ≤ k → ad' k = ad k) {L : List (Nat × Value)} (hl : L.all (fun q => vok n q.2) = true) : L.map (fun q => (q.1, cv ad' q.2)) = L.map (fun q => (q.1, cv ad q.2)) := by
  refine List.map_congr_left (fun v hv => ?_)
  rw [cv_ext h (List.all_eq_true.mp hl v hv)]
theorem ce_ext {n : Nat} {g : AG} {ad ad' : Nat → Nat} (h : ∀ k, k < n ∨ 1000000 ≤ k → ad' k = ad k) {c : AC} (hc : cok n c = true) : ce g ad' c = ce g ad c := by
  rcases c with o | l | l | l | l
  · show (Sum.inr (o.1, o.2.map (cv ad')) : va_E) = .inr (o.1, o.2.map (cv ad))
    rw [cv_extL h hc]
  · rfl
  · rfl
  · rfl
  · have hf : (fun j => (l.getD j none).map ad') = (fun j => (l.getD j none).map ad) := by
      funext j
      cases hj : l[j]? with
      | none => simp [List.getD_eq_getElem?_getD, hj]
      | some o =>
        have ho : ook n o = true := List.all_eq_true.mp hc o (List.mem_of_getElem? hj)
        cases o with
        | none => simp [List.getD_eq_getElem?_getD, hj]
        | some k => simp [List.getD_eq_getElem?_getD, hj, h k (by simpa [ook] using ho)]
    show (Sum.inl (_, l.length, Sum.inr (Sum.inr (Sum.inr (Sum.inr (fun j => (l.getD j none).map ad'))))) : va_E) = _
    rw [hf]; rfl
theorem wd_ext {g : AG} {ad ad' : Nat → Nat} {σ : AS} (h : ∀ k, k < σ.length ∨ 1000000 ≤ k → ad' k = ad k) (hc : σ.all (cok σ.length) = true) : wd g ad' σ = wd g ad σ := by
  unfold wd
  refine List.ext_getElem (by simp) (fun i h1 h2 => ?_)
  have hi : i < σ.length := by simpa using h1
  simp only [List.getElem_mapIdx]
  rw [h i (Or.inl hi), ce_ext h (List.all_eq_true.mp hc _ (List.getElem_mem hi))]
section CALLS
variable {g : AG} {M : AM} {d pc : Nat} {L : List (Nat × Value)} {st : List Value} {σ : AS} {bc bs : Nat} {Q : AR → AS → Prop}
theorem cat_map (ad : Nat → Nat) (l : List Value) : ((l.map (cv ad)).map fun v => v.category) = l.map fun v => v.category := by
  rw [List.map_map]; exact List.map_congr_left (fun v _ => cv_cat ad v)
theorem good_S {own : String} {idx : Nat} {y : MethodName} {M' : AM} (h1 : Cond.methodLink own idx y ∈ lw_tbl) (h2 : Cond.static y ∈ lw_tbl) (h3 : Cond.initialized y.cls ∈ lw_tbl) (h4 : Cond.code y M'.2.1 M'.2.2.1 M'.2.2.2.1 ∈ lw_tbl) : GoodIn aw_all (va_wsS own idx y (wsM y M')) := by
  refine aw_good (fun w hw => ?_)
  rcases List.mem_append.mp hw with h | h
  · rcases List.mem_cons.mp h with rfl | h
    · exact aw_in h1 rfl
    · rcases List.mem_cons.mp h with rfl | h
      · exact aw_in h2 rfl
      · rcases List.mem_cons.mp h with rfl | h
        · exact aw_in h3 rfl
        · cases h
  · rcases List.mem_cons.mp h with rfl | h
    · exact aw_in h4 rfl
    · exact h
theorem good_I {y : MethodName} {M' : AM} (h4 : Cond.code y M'.2.1 M'.2.2.1 M'.2.2.2.1 ∈ lw_tbl) : GoodIn aw_all (wsM y M') := by
  refine aw_good (fun w h => ?_)
  rcases List.mem_cons.mp h with rfl | h
  · exact aw_in h4 rfl
  · exact h
theorem good_V {own C : String} {idx : Nat} {y : MethodName} {M' : AM} (h1 : Cond.methodLink own idx y ∈ lw_tbl) (h2 : Cond.instanceMethod y ∈ lw_tbl) (h3 : Cond.selects C y y ∈ lw_tbl) (h5 : Cond.initialized C ∈ lw_tbl) (h4 : Cond.code y M'.2.1 M'.2.2.1 M'.2.2.2.1 ∈ lw_tbl) : GoodIn aw_all (wsV own idx C y (wsM y M')) := by
  refine aw_good (fun w hw => ?_)
  rcases List.mem_append.mp hw with h | h
  · rcases List.mem_cons.mp h with rfl | h
    · exact aw_in h1 rfl
    · rcases List.mem_cons.mp h with rfl | h
      · exact aw_in h2 rfl
      · rcases List.mem_cons.mp h with rfl | h
        · exact aw_in h3 rfl
        · rcases List.mem_cons.mp h with rfl | h
          · exact aw_in h5 rfl
          · cases h
  · rcases List.mem_cons.mp h with rfl | h
    · exact aw_in h4 rfl
    · exact h
/-- behind a call: the caller goes on -/
theorem aw_ck {p : Program} {e : Env} {R : Room} {s : State} {m : MethodId} {args : Array Value} {below : List Frame} {meth : Method} {c : Code} {H : Heap} {locs : List Loc} {cells slots : Nat} {ls : Array Slot} {st0 : List Value} {rest : List Value} {a : Array Value} {QQ : State → Prop} {mcT msT n0 : Nat} {ad0 ad : Nat → Nat} {bc1 bs1 : Nat} {Q1 : AR → AS → Prop}
    (C : Cx g M d ad0 p R s m args meth c) (F : AFin g M ad0 n0 p e R s m args below meth c QQ mcT msT Q)
    (hh : (mcT = 0 → ad = ad0) ∧ (∀ k, k < n0 ∨ 1000000 ≤ k → ad k = ad0 k) ∧ n0 ≤ σ.length ∧ cells + (bc1 + bc) ≤ mcT ∧ slots + (bs1 + bs) ≤ msT ∧ mcT ≤ R.cells ∧ msT ≤ R.slots) (hl : lv_has ls M.2.2.1 (L.map (fun q => (q.1, cv ad q.2))))
    (hr : va_Run p g.1 e R s m args below meth c H locs cells slots bc1 bs1 (F0 m pc ls st0) (rest.map (cv ad)) (CQ g ad σ.length bc1 Q1 a) (ag_A g)) (hS : va_S (ag_A g) s.heap H locs) (hok : bc1 = 0 ∨ aok σ.length L rest = true)
    (k : ∀ (v : Option Value) (σ' : AS), Q1 (.inl v) σ' → AW g M d (pc + 3) L (v.toList ++ rest) σ' bc bs Q) : W p g.1 e R s m args below meth c H locs cells slots QQ (F0 m pc ls st0) := by
  intro T hT X
  obtain ⟨v, st₀, t, T', L1, h0, X', hL, e1, e2, ⟨⟨v1, σ', ad', hv, hq, h1, h2, hn, hR⟩, hz, hk⟩, st9⟩ := hr T hT X
  cases hv
  rw [h0] at hz hk
  have hSS : va_S (ag_A g) s.heap T'.heap (locs ++ L1) := ⟨Nat.le_trans hS.1 (by rw [e1]; exact hz), fun q h1 h2 => by rw [e1, hk q (Nat.lt_of_lt_of_le h1 hS.1) h2]; exact hS.2.1 q h1 h2, fun q hq => by
      rcases List.mem_append.mp hq with h | h
      · exact hS.2.2 q h
      · exact hL q h⟩
  have hLe : L.map (fun q => (q.1, cv ad' q.2)) = L.map (fun q => (q.1, cv ad q.2)) := by
    rcases hok with h | h
    · rw [h1 h]
    · exact cv_extP h2 (by simp only [aok, Bool.and_eq_true] at h; exact h.1)
  have hrE : rest.map (cv ad') = rest.map (cv ad) := by
    rcases hok with h | h
    · rw [h1 h]
    · exact cv_extL h2 (by simp only [aok, Bool.and_eq_true] at h; exact h.2)
  obtain ⟨t2, a1, b1⟩ := k v1 σ' hq p e R s m args below meth c QQ mcT msT ad0 n0 C F ad' T'.heap (locs ++ L1) (cells + bc1) (slots + bs1) ls
    ⟨fun hz0 => (h1 (by omega)).trans (hh.1 hz0), fun k hk => (h2 k (by omega)).trans (hh.2.1 k hk), by omega, by omega, by omega, hh.2.2.2.2.2.1, hh.2.2.2.2.2.2⟩ (by rw [e1]; exact hR) hSS (by rw [hLe]; exact hl) T' rfl X'
  refine ⟨t2, st9 t2 ?_, b1⟩
  have hstk : (v1.map (cv ad')).toList ++ rest.map (cv ad) = (v1.toList ++ rest).map (cv ad') := by
    rw [List.map_append, hrE]
    cases v1 <;> rfl
  rw [hstk]
  exact a1
theorem aw_pre {s : State} {H : Heap} {locs : List Loc} {ad0 ad : Nat → Nat} {av : List Value} (hGE : GE g ad0 s) (had : ∀ k, 1000000 ≤ k → ad k = ad0 k) (hR : Rep g ad σ H) (hS : va_S (ag_A g) s.heap H locs) : PreS s H (va_Pc (av.map (cv ad)) (fun U => GE g ad U ∧ Rep g ad σ U.heap)) (av.map (cv ad)) := by
  refine ⟨fun a U g9 mk q => ⟨q.1, q.2.1.same rfl rfl, q.2.2⟩, fun U hU hW => ⟨rfl, ?_, by rw [hU]; exact hR⟩⟩
  exact GE.warm hW (by rw [hU]; exact hS) had hGE
theorem aw_rm {ad : Nat → Nat} {rest : List Value} (hcat : (rest.map fun v => v.category).sum ≤ 8) : ((rest.map (cv ad)).map fun v => v.category).sum ≤ 8 := by rw [cat_map]; exact hcat
/-- a static method is called -/
theorem aw_invokestatic {own : String} {index d' n bc1 bs1 bcT bsT : Nat} {y : MethodName} {M' : AM} {av rest : List Value} {Q1 : AR → AS → Prop} (hd : decode M.2.1 pc = .ok (.invokestatic index, 3)) (hown : M.1 = own) (ct : CT g y M' d' bc1 bs1 av σ Q1) (hdd : d' + 1 ≤ d) (hmax : M'.2.2.1 ≤ 17)
    (hG : GoodIn aw_all (va_wsS own index y (wsM y M'))) (hyd : y.cls ≠ "java/lang/invoke/MethodHandle" ∧ y.cls ≠ "java/lang/invoke/VarHandle" ∧ (parseMethodDescriptor y.desc).map (fun d => d.parameters.length) = some n) (hn : av.length = n) (hst : av.reverse ++ rest = st) (hcat : (rest.map fun v => v.category).sum ≤ 8) (hok : bc1 = 0 ∨ aok σ.length L rest = true) (hbc : bc1 + bc = bcT) (hbs : bs1 + bs = bsT)
    (k : ∀ (v : Option Value) (σ' : AS), Q1 (.inl v) σ' → AW g M d (pc + 3) L (v.toList ++ rest) σ' bc bs Q) : AW g M d pc L st σ bcT bsT Q := by
  intro p e R s m args below meth c QQ mcT msT ad0 n0 C F ad H locs cells slots ls hh hR hS hl
  subst hown; subst hbc; subst hbs; subst hst
  obtain ⟨C1, C2, C3, C4, C5, C6, C7, C8, C9, C10, C11⟩ := id C
  have hp := aw_pre (av := av) C6 (fun k hk => hh.2.1 k (Or.inr hk)) hR hS
  exact aw_ck C F hh hl (va_runS (As := av.map (cv ad)) (rest := rest.map (cv ad)) ⟨C1, C2, C3, C4, C5⟩ (ct ad) (va_cwS n C5 hG rfl rfl rfl hyd ⟨by show d' + 1 ≤ _; omega, by show 8 + (_ + 11) + 36 * d' ≤ _; omega⟩) hp rfl (by rw [List.length_map]; exact hn) hl.1 (by show List.map _ _ = _; rw [List.map_append, List.map_reverse]) (lv_room (aw_rm hcat)) hd ⟨by omega, by omega⟩) hS hok k
/-- a method of an object is called -/
theorem aw_invokevirtual {own C0 : String} {T : u_T} {N ci index d' n b bc1 bs1 bcT bsT : Nat} {y : MethodName} {M' : AM} {As rest fs : List Value} {Q1 : AR → AS → Prop} (hd : decode M.2.1 pc = .ok (.invokevirtual index, 3)) (hown : M.1 = own) (hs : σ[b]? = some (ac_o ci fs)) (hc : vwCl[ci]? = some (C0, T, N)) (ct : CT g y M' d' bc1 bs1 (.ref b :: As) σ Q1) (hdd : d' + 1 ≤ d) (hmax : M'.2.2.1 ≤ 17)
    (hG : GoodIn aw_all (wsV own index C0 y (wsM y M'))) (hyd : y.cls = C0 ∧ y.cls ≠ "java/lang/invoke/MethodHandle" ∧ y.cls ≠ "java/lang/invoke/VarHandle" ∧ (parseMethodDescriptor y.desc).map (fun d => d.parameters.length) = some n) (hn : As.length = n) (hst : As.reverse ++ .ref b :: rest = st) (hcat : (rest.map fun v => v.category).sum ≤ 8) (hok : bc1 = 0 ∨ aok σ.length L rest = true) (hbc : bc1 + bc = bcT) (hbs : bs1 + bs = bsT)
    (k : ∀ (v : Option Value) (σ' : AS), Q1 (.inl v) σ' → AW g M d (pc + 3) L (v.toList ++ rest) σ' bc bs Q) : AW g M d pc L st σ bcT bsT Q := by
  intro p e R s m args below meth c QQ mcT msT ad0 n0 C F ad H locs cells slots ls hh hR hS hl
  subst hown; subst hbc; subst hbs; subst hst
  obtain ⟨C1, C2, C3, C4, C5, C6, C7, C8, C9, C10, C11⟩ := id C
  have hp := aw_pre (av := .ref b :: As) C6 (fun k hk => hh.2.1 k (Or.inr hk)) hR hS
  exact aw_ck C F hh hl (va_runV (As := As.map (cv ad)) (b := ad b) (rest := rest.map (cv ad)) ⟨C1, C2, C3, C4, C5⟩ (ct ad) (cwV n C5 hG rfl rfl rfl hyd ⟨by show d' + 1 ≤ _; omega, by show 8 + (_ + 11) + 36 * d' ≤ _; omega⟩) ⟨hp.1, va_recv C6.1 hR.1 hc (wd_get hs), hp.2⟩ rfl (by rw [List.length_map]; exact hn) hl.1 (by show List.map _ _ = _; rw [List.map_append, List.map_reverse]; rfl) (lv_room (aw_rm hcat)) hd ⟨by omega, by omega⟩) hS hok k
/-- a constructor is called -/
theorem aw_invokespecial {own : String} {index d' n b bc1 bs1 bcT bsT : Nat} {y : MethodName} {M' : AM} {As rest : List Value} {Q1 : AR → AS → Prop} (hd : decode M.2.1 pc = .ok (.invokespecial index, 3)) (hown : M.1 = own) (ct : CT g y M' d' bc1 bs1 (.ref b :: As) σ Q1) (hdd : d' + 1 ≤ d) (hmax : M'.2.2.1 ≤ 17) (hret : M'.2.2.2.1 = none)
    (hG : GoodIn aw_all (wsM y M')) (hini : Cond.initialized y.cls ∈ lw_tbl) (hlk : Cond.methodLink own index y ∈ lw_tbl) (hin : Cond.instanceMethod y ∈ lw_tbl) (hy1 : y.name = "<init>") (hyd : y.cls ≠ "java/lang/invoke/MethodHandle" ∧ y.cls ≠ "java/lang/invoke/VarHandle" ∧ (parseMethodDescriptor y.desc).map (fun d => d.parameters.length) = some n) (hn : As.length = n) (hst : As.reverse ++ .ref b :: rest = st) (hcat : (rest.map fun v => v.category).sum ≤ 8) (hok : bc1 = 0 ∨ aok σ.length L rest = true) (hbc : bc1 + bc = bcT) (hbs : bs1 + bs = bsT)
    (k : ∀ (v : Option Value) (σ' : AS), Q1 (.inl v) σ' → AW g M d (pc + 3) L (v.toList ++ rest) σ' bc bs Q) : AW g M d pc L st σ bcT bsT Q := by
  intro p e R s m args below meth c QQ mcT msT ad0 n0 C F ad H locs cells slots ls hh hR hS hl
  subst hown; subst hbc; subst hbs; subst hst
  obtain ⟨C1, C2, C3, C4, C5, C6, C7, C8, C9, C10, C11⟩ := id C
  have hp := aw_pre (av := .ref b :: As) C6 (fun k hk => hh.2.1 k (Or.inr hk)) hR hS
  exact aw_ck C F hh hl (va_runI (As := As.map (cv ad)) (b := ad b) (rest := rest.map (cv ad)) ⟨C1, C2, C3, C4, C5⟩ (ct ad) (cwI n C5 hG (by unfold wsM; rw [hret]) rfl rfl (C5 _ (aw_in hini rfl)) (C5 _ (aw_in hlk rfl)) (C5 _ (aw_in hin rfl)) hy1 hyd ⟨by show d' + 1 ≤ _; omega, by show 8 + (_ + 11) + 36 * d' ≤ _; omega⟩) hp rfl (by rw [List.length_map]; exact hn) hl.1 (by show List.map _ _ = _; rw [List.map_append, List.map_reverse]; rfl) (lv_room (aw_rm hcat)) hd ⟨by omega, by omega⟩) hS hok k
end CALLS
end
section
section RULES2
variable {g : AG} {M : AM} {d pc : Nat} {L : List (Nat × Value)} {st : List Value} {σ : AS} {bc bs : Nat} {Q : AR → AS → Prop}
theorem aw_irem {x y : Int32} (hd : decode M.2.1 pc = .ok (.irem, 1)) (hne : ¬ y = 0) (k : AW g M d (pc + 1) L (.int (x - x / y * y) :: st) σ bc bs Q) : AW g M d pc L (.int y :: .int x :: st) σ bc bs Q := aw_1 (fun C _ w => lv_irem C.1 C.2.1 hd hne w) k
theorem aw_ineg {x : Int32} (hd : decode M.2.1 pc = .ok (.ineg, 1)) (k : AW g M d (pc + 1) L (.int (0 - x) :: st) σ bc bs Q) : AW g M d pc L (.int x :: st) σ bc bs Q := aw_1 (fun C _ w => lv_ineg C.1 C.2.1 hd w) k
theorem aw_i2l {x : Int32} (hd : decode M.2.1 pc = .ok (.i2l, 1)) (k : AW g M d (pc + 1) L (.long x.toInt64 :: st) σ bc bs Q) : AW g M d pc L (.int x :: st) σ bc bs Q := aw_1 (fun C _ w => lv_i2l C.1 C.2.1 hd rfl w) k
theorem aw_l2i {x : Int64} (hd : decode M.2.1 pc = .ok (.l2i, 1)) (k : AW g M d (pc + 1) L (.int x.toInt32 :: st) σ bc bs Q) : AW g M d pc L (.long x :: st) σ bc bs Q := aw_1 (fun C _ w => lv_l2i C.1 C.2.1 hd rfl w) k
theorem aw_i2d {x : Int32} (hd : decode M.2.1 pc = .ok (.i2d, 1)) (k : AW g M d (pc + 1) L (.double (FP.i2d x) :: st) σ bc bs Q) : AW g M d pc L (.int x :: st) σ bc bs Q := aw_1 (fun C _ w => lv_i2d C.1 C.2.1 hd w) k
theorem aw_d2l {x : UInt64} (hd : decode M.2.1 pc = .ok (.d2l, 1)) (k : AW g M d (pc + 1) L (.long (FP.d2l x) :: st) σ bc bs Q) : AW g M d pc L (.double x :: st) σ bc bs Q := aw_1 (fun C _ w => lv_d2l C.1 C.2.1 hd w) k
theorem aw_ladd {x y : Int64} (hd : decode M.2.1 pc = .ok (.ladd, 1)) (k : AW g M d (pc + 1) L (.long (x + y) :: st) σ bc bs Q) : AW g M d pc L (.long y :: .long x :: st) σ bc bs Q := aw_1 (fun C _ w => lv_ladd C.1 C.2.1 hd w) k
theorem aw_lsub {x y : Int64} (hd : decode M.2.1 pc = .ok (.lsub, 1)) (k : AW g M d (pc + 1) L (.long (x - y) :: st) σ bc bs Q) : AW g M d pc L (.long y :: .long x :: st) σ bc bs Q := aw_1 (fun C _ w => lv_lsub C.1 C.2.1 hd w) k
theorem aw_lmul {x y : Int64} (hd : decode M.2.1 pc = .ok (.lmul, 1)) (k : AW g M d (pc + 1) L (.long (x * y) :: st) σ bc bs Q) : AW g M d pc L (.long y :: .long x :: st) σ bc bs Q := aw_1 (fun C _ w => lv_lmul C.1 C.2.1 hd w) k
theorem aw_lshl {x : Int64} {y : Int32} (hd : decode M.2.1 pc = .ok (.lshl, 1)) (k : AW g M d (pc + 1) L (.long (x <<< (y.toInt64 &&& 63)) :: st) σ bc bs Q) : AW g M d pc L (.int y :: .long x :: st) σ bc bs Q := aw_1 (fun C _ w => lv_lshl C.1 C.2.1 hd rfl w) k
theorem aw_lcmp {x y : Int64} (hd : decode M.2.1 pc = .ok (.lcmp, 1)) (k : AW g M d (pc + 1) L (.int (lg_cmp x y) :: st) σ bc bs Q) : AW g M d pc L (.long y :: .long x :: st) σ bc bs Q := aw_1 (fun C _ w => W.lcmp C.1 C.2.1 hd w) k
theorem aw_dcmp {x y : UInt64} {op : CmpOp} (hd : decode M.2.1 pc = .ok (.dcmp op, 1)) (k : AW g M d (pc + 1) L (.int (Op.cmpValue (FP.dcmp x y) op) :: st) σ bc bs Q) : AW g M d pc L (.double y :: .double x :: st) σ bc bs Q := aw_1 (fun C _ w => lv_dcmp C.1 C.2.1 hd w) k
theorem aw_dmul {x y : UInt64} (hd : decode M.2.1 pc = .ok (.dmul, 1)) (hne : vf_n64 (FP.dmul x y)) (k : AW g M d (pc + 1) L (.double (FP.dmul x y) :: st) σ bc bs Q) : AW g M d pc L (.double y :: .double x :: st) σ bc bs Q := aw_1 (fun C _ w => lv_dmul C.1 C.2.1 hd hne w) k
theorem aw_ddiv {x y : UInt64} (hd : decode M.2.1 pc = .ok (.ddiv, 1)) (hne : vf_n64 (FP.ddiv x y)) (k : AW g M d (pc + 1) L (.double (FP.ddiv x y) :: st) σ bc bs Q) : AW g M d pc L (.double y :: .double x :: st) σ bc bs Q := aw_1 (fun C _ w => lv_ddiv C.1 C.2.1 hd hne w) k
theorem aw_dsub {x y : UInt64} (hd : decode M.2.1 pc = .ok (.dsub, 1)) (hne : vf_n64 (FP.dsub x y)) (k : AW g M d (pc + 1) L (.double (FP.dsub x y) :: st) σ bc bs Q) : AW g M d pc L (.double y :: .double x :: st) σ bc bs Q := aw_1 (fun C _ w => lv_dsub C.1 C.2.1 hd hne w) k
theorem aw_dconst0 (hd : decode M.2.1 pc = .ok (.dconst 0, 1)) (k : AW g M d (pc + 1) L (.double FP.dconst0 :: st) σ bc bs Q) : AW g M d pc L st σ bc bs Q := aw_1 (fun C _ w => lv_dconst0 C.1 C.2.1 hd w) k
theorem aw_dconst1 (hd : decode M.2.1 pc = .ok (.dconst 1, 1)) (k : AW g M d (pc + 1) L (.double FP.dconst1 :: st) σ bc bs Q) : AW g M d pc L st σ bc bs Q := aw_1 (fun C _ w => lv_dconst1 C.1 C.2.1 hd w) k
theorem aw_iload {i n : Nat} {x : Int32} (hd : decode M.2.1 pc = .ok (.iload n, 2)) (hL : L[i]? = some (n, .int x)) (k : AW g M d (pc + 2) L (.int x :: st) σ bc bs Q) : AW g M d pc L st σ bc bs Q := aw_1 (fun C hl w => lv_iload C.1 C.2.1 hd (lv_at hl i (aw_loc hL)) w) k
theorem aw_lload_n {j : Fin 4} {i n : Nat} {x : Int64} (hd : decode M.2.1 pc = .ok (.lload_n j, 1)) (hj : (j : Nat) = n) (hL : L[i]? = some (n, .long x)) (k : AW g M d (pc + 1) L (.long x :: st) σ bc bs Q) : AW g M d pc L st σ bc bs Q := aw_1 (fun C hl w => lv_lload_n C.1 C.2.1 hd hj (lv_at hl i (aw_loc hL)) w) k
theorem aw_lload {i n : Nat} {x : Int64} (hd : decode M.2.1 pc = .ok (.lload n, 2)) (hL : L[i]? = some (n, .long x)) (k : AW g M d (pc + 2) L (.long x :: st) σ bc bs Q) : AW g M d pc L st σ bc bs Q := aw_1 (fun C hl w => lv_lload C.1 C.2.1 hd (lv_at hl i (aw_loc hL)) w) k
theorem aw_dload_n {j : Fin 4} {i n : Nat} {x : UInt64} (hd : decode M.2.1 pc = .ok (.dload_n j, 1)) (hj : (j : Nat) = n) (hL : L[i]? = some (n, .double x)) (k : AW g M d (pc + 1) L (.double x :: st) σ bc bs Q) : AW g M d pc L st σ bc bs Q := aw_1 (fun C hl w => lv_dload_n C.1 C.2.1 hd hj (lv_at hl i (aw_loc hL)) w) k
theorem aw_dload {i n : Nat} {x : UInt64} (hd : decode M.2.1 pc = .ok (.dload n, 2)) (hL : L[i]? = some (n, .double x)) (k : AW g M d (pc + 2) L (.double x :: st) σ bc bs Q) : AW g M d pc L st σ bc bs Q := aw_1 (fun C hl w => lv_dload C.1 C.2.1 hd (lv_at hl i (aw_loc hL)) w) k
theorem aw_istore {n : Nat} {x : Int32} {L' : List (Nat × Value)} (hd : decode M.2.1 pc = .ok (.istore n, 2)) (hn : n < M.2.2.1) (hL : (n, Value.int x) :: L.filter (fun q => !(q.1 == n) && !(q.1 + 1 == n && q.2.category == 2)) = L') (k : AW g M d (pc + 2) L' st σ bc bs Q) : AW g M d pc L (.int x :: st) σ bc bs Q :=
  aw_3 (fun {_ _ _ _ _ _ _ _ _ _ _ ad _ _ _ _ _} C hl w => lv_istore C.1 C.2.1 hd hl hn (by rw [aw_fil (ad := ad) (fun a b => !(a == n) && !(a + 1 == n && b == 2)), ← hL]; rfl) w) k
theorem aw_lstore_n {j : Fin 4} {n : Nat} {x : Int64} {L' : List (Nat × Value)} (hd : decode M.2.1 pc = .ok (.lstore_n j, 1)) (hj : (j : Nat) = n) (hn : n + 1 < M.2.2.1) (hL : (n, Value.long x) :: L.filter (fun q => !(q.1 == n) && (!(q.1 == n + 1) && !(q.1 + 1 == n && q.2.category == 2))) = L') (k : AW g M d (pc + 1) L' st σ bc bs Q) : AW g M d pc L (.long x :: st) σ bc bs Q :=
  aw_3 (fun {_ _ _ _ _ _ _ _ _ _ _ ad _ _ _ _ _} C hl w => lv_lstore_n C.1 C.2.1 hd hj hl hn (by rw [aw_fil (ad := ad) (fun a b => !(a == n) && (!(a == n + 1) && !(a + 1 == n && b == 2))), ← hL]; rfl) w) k
theorem aw_lstore {n : Nat} {x : Int64} {L' : List (Nat × Value)} (hd : decode M.2.1 pc = .ok (.lstore n, 2)) (hn : n + 1 < M.2.2.1) (hL : (n, Value.long x) :: L.filter (fun q => !(q.1 == n) && (!(q.1 == n + 1) && !(q.1 + 1 == n && q.2.category == 2))) = L') (k : AW g M d (pc + 2) L' st σ bc bs Q) : AW g M d pc L (.long x :: st) σ bc bs Q :=
  aw_3 (fun {_ _ _ _ _ _ _ _ _ _ _ ad _ _ _ _ _} C hl w => lv_lstore C.1 C.2.1 hd hl hn (by rw [aw_fil (ad := ad) (fun a b => !(a == n) && (!(a == n + 1) && !(a + 1 == n && b == 2))), ← hL]; rfl) w) k
theorem aw_dstore_n {j : Fin 4} {n : Nat} {x : UInt64} {L' : List (Nat × Value)} (hd : decode M.2.1 pc = .ok (.dstore_n j, 1)) (hj : (j : Nat) = n) (hn : n + 1 < M.2.2.1) (hL : (n, Value.double x) :: L.filter (fun q => !(q.1 == n) && (!(q.1 == n + 1) && !(q.1 + 1 == n && q.2.category == 2))) = L') (k : AW g M d (pc + 1) L' st σ bc bs Q) : AW g M d pc L (.double x :: st) σ bc bs Q :=
  aw_3 (fun {_ _ _ _ _ _ _ _ _ _ _ ad _ _ _ _ _} C hl w => lv_dstore_n C.1 C.2.1 hd hj hl hn (by rw [aw_fil (ad := ad) (fun a b => !(a == n) && (!(a == n + 1) && !(a + 1 == n && b == 2))), ← hL]; rfl) w) k
theorem aw_astore_n {j : Fin 4} {n : Nat} {x : Nat} {L' : List (Nat × Value)} (hd : decode M.2.1 pc = .ok (.astore_n j, 1)) (hj : (j : Nat) = n) (hn : n < M.2.2.1) (hL : (n, Value.ref x) :: L.filter (fun q => !(q.1 == n) && !(q.1 + 1 == n && q.2.category == 2)) = L') (k : AW g M d (pc + 1) L' st σ bc bs Q) : AW g M d pc L (.ref x :: st) σ bc bs Q :=
  aw_3 (fun {_ _ _ _ _ _ _ _ _ _ _ ad _ _ _ _ _} C hl w => lv_astore_n C.1 C.2.1 hd hj hl hn (by rw [aw_fil (ad := ad) (fun a b => !(a == n) && !(a + 1 == n && b == 2)), ← hL]; rfl) w) k
theorem aw_iinc {i n : Nat} {z : Int} {x v : Int32} {L' : List (Nat × Value)} (hd : decode M.2.1 pc = .ok (.iinc n z, 3)) (hi : L[i]? = some (n, .int x)) (hv : x + Int32.ofInt z = v) (hn : n < M.2.2.1) (hL : (n, Value.int v) :: L.filter (fun q => !(q.1 == n) && !(q.1 + 1 == n && q.2.category == 2)) = L') (k : AW g M d (pc + 3) L' st σ bc bs Q) : AW g M d pc L st σ bc bs Q :=
  aw_3 (fun {_ _ _ _ _ _ _ _ _ _ _ ad _ _ _ _ _} C hl w => lv_iinc C.1 C.2.1 hd hl (aw_loc hi) hv hn (by rw [aw_fil (ad := ad) (fun a b => !(a == n) && !(a + 1 == n && b == 2)), ← hL]; rfl) w) k
theorem aw_sub {L' : List (Nat × Value)} (ks : List Nat) (hL : lv_pick L ks = L') (k : AW g M d pc L' st σ bc bs Q) : AW g M d pc L st σ bc bs Q :=
  aw_3 (fun {_ _ _ _ _ _ _ _ _ _ _ ad _ _ _ _ _} _ hl w => w _ (lv_sub hl ks (by
    rw [← hL]
    unfold lv_pick
    rw [List.map_filterMap]
    refine congrArg (fun f => List.filterMap f ks) (funext fun i => ?_)
    rw [List.getElem?_map]))) k
theorem aw_dup {v : Value} (hd : decode M.2.1 pc = .ok (.dup, 1)) (hv : v.category = 1) (k : AW g M d (pc + 1) L (v :: v :: st) σ bc bs Q) : AW g M d pc L (v :: st) σ bc bs Q := aw_1 (fun {_ _ _ _ _ _ _ _ _ _ _ ad _ _ _ _ _} C _ w => lv_dup C.1 C.2.1 hd (by rw [cv_cat]; exact hv) w) k
theorem aw_dup2 {v w : Value} (hd : decode M.2.1 pc = .ok (.dup2, 1)) (hv : v.category = 1) (hw : w.category = 1) (k : AW g M d (pc + 1) L (v :: w :: v :: w :: st) σ bc bs Q) : AW g M d pc L (v :: w :: st) σ bc bs Q := aw_1 (fun {_ _ _ _ _ _ _ _ _ _ _ ad _ _ _ _ _} C _ w9 => lv_dup2_11 C.1 C.2.1 hd (by rw [cv_cat]; exact hv) (by rw [cv_cat]; exact hw) w9) k
theorem aw_dup2L {v : Value} (hd : decode M.2.1 pc = .ok (.dup2, 1)) (hv : v.category = 2) (k : AW g M d (pc + 1) L (v :: v :: st) σ bc bs Q) : AW g M d pc L (v :: st) σ bc bs Q := aw_1 (fun {_ _ _ _ _ _ _ _ _ _ _ ad _ _ _ _ _} C _ w => lv_dup2_2 C.1 C.2.1 hd (by rw [cv_cat]; exact hv) w) k
theorem aw_icmp_eq {x y : Int32} {off : Int} {tgt : Nat} (hd : decode M.2.1 pc = .ok (.if_icmp .eq off, 3)) (ht : (pc : Int) + off = (tgt : Int)) (k1 : x = y → AW g M d tgt L st σ bc bs Q) (k2 : ¬ x = y → AW g M d (pc + 3) L st σ bc bs Q) : AW g M d pc L (.int y :: .int x :: st) σ bc bs Q := aw_2 (fun C a b => lv_icmp_eq C.1 C.2.1 hd ht a b) k1 k2
theorem aw_if_eq {x : Int32} {off : Int} {tgt : Nat} (hd : decode M.2.1 pc = .ok (.ifCond .eq off, 3)) (ht : (pc : Int) + off = (tgt : Int)) (k1 : x = 0 → AW g M d tgt L st σ bc bs Q) (k2 : ¬ x = 0 → AW g M d (pc + 3) L st σ bc bs Q) : AW g M d pc L (.int x :: st) σ bc bs Q := aw_2 (fun C a b => lv_if_eq C.1 C.2.1 hd ht a b) k1 k2
theorem aw_icmp_ne {x y : Int32} {off : Int} {tgt : Nat} (hd : decode M.2.1 pc = .ok (.if_icmp .ne off, 3)) (ht : (pc : Int) + off = (tgt : Int)) (k1 : ¬ x = y → AW g M d tgt L st σ bc bs Q) (k2 : x = y → AW g M d (pc + 3) L st σ bc bs Q) : AW g M d pc L (.int y :: .int x :: st) σ bc bs Q := aw_2 (fun C a b => lv_icmp_ne C.1 C.2.1 hd ht a b) k1 k2
theorem aw_if_ne {x : Int32} {off : Int} {tgt : Nat} (hd : decode M.2.1 pc = .ok (.ifCond .ne off, 3)) (ht : (pc : Int) + off = (tgt : Int)) (k1 : ¬ x = 0 → AW g M d tgt L st σ bc bs Q) (k2 : x = 0 → AW g M d (pc + 3) L st σ bc bs Q) : AW g M d pc L (.int x :: st) σ bc bs Q := aw_2 (fun C a b => lv_if_ne C.1 C.2.1 hd ht a b) k1 k2
theorem aw_icmp_lt {x y : Int32} {off : Int} {tgt : Nat} (hd : decode M.2.1 pc = .ok (.if_icmp .lt off, 3)) (ht : (pc : Int) + off = (tgt : Int)) (k1 : x < y → AW g M d tgt L st σ bc bs Q) (k2 : ¬ x < y → AW g M d (pc + 3) L st σ bc bs Q) : AW g M d pc L (.int y :: .int x :: st) σ bc bs Q := aw_2 (fun C a b => lv_icmp_lt C.1 C.2.1 hd ht a b) k1 k2
theorem aw_if_lt {x : Int32} {off : Int} {tgt : Nat} (hd : decode M.2.1 pc = .ok (.ifCond .lt off, 3)) (ht : (pc : Int) + off = (tgt : Int)) (k1 : x < 0 → AW g M d tgt L st σ bc bs Q) (k2 : ¬ x < 0 → AW g M d (pc + 3) L st σ bc bs Q) : AW g M d pc L (.int x :: st) σ bc bs Q := aw_2 (fun C a b => lv_if_lt C.1 C.2.1 hd ht a b) k1 k2
theorem aw_icmp_gt {x y : Int32} {off : Int} {tgt : Nat} (hd : decode M.2.1 pc = .ok (.if_icmp .gt off, 3)) (ht : (pc : Int) + off = (tgt : Int)) (k1 : y < x → AW g M d tgt L st σ bc bs Q) (k2 : ¬ y < x → AW g M d (pc + 3) L st σ bc bs Q) : AW g M d pc L (.int y :: .int x :: st) σ bc bs Q := aw_2 (fun C a b => lv_icmp_gt C.1 C.2.1 hd ht a b) k1 k2
theorem aw_if_gt {x : Int32} {off : Int} {tgt : Nat} (hd : decode M.2.1 pc = .ok (.ifCond .gt off, 3)) (ht : (pc : Int) + off = (tgt : Int)) (k1 : 0 < x → AW g M d tgt L st σ bc bs Q) (k2 : ¬ 0 < x → AW g M d (pc + 3) L st σ bc bs Q) : AW g M d pc L (.int x :: st) σ bc bs Q := aw_2 (fun C a b => lv_if_gt C.1 C.2.1 hd ht a b) k1 k2
theorem aw_icmp_le {x y : Int32} {off : Int} {tgt : Nat} (hd : decode M.2.1 pc = .ok (.if_icmp .le off, 3)) (ht : (pc : Int) + off = (tgt : Int)) (k1 : x ≤ y → AW g M d tgt L st σ bc bs Q) (k2 : ¬ x ≤ y → AW g M d (pc + 3) L st σ bc bs Q) : AW g M d pc L (.int y :: .int x :: st) σ bc bs Q := aw_2 (fun C a b => lv_icmp_le C.1 C.2.1 hd ht a b) k1 k2
theorem aw_if_le {x : Int32} {off : Int} {tgt : Nat} (hd : decode M.2.1 pc = .ok (.ifCond .le off, 3)) (ht : (pc : Int) + off = (tgt : Int)) (k1 : x ≤ 0 → AW g M d tgt L st σ bc bs Q) (k2 : ¬ x ≤ 0 → AW g M d (pc + 3) L st σ bc bs Q) : AW g M d pc L (.int x :: st) σ bc bs Q := aw_2 (fun C a b => lv_if_le C.1 C.2.1 hd ht a b) k1 k2
theorem aw_if_ge {x : Int32} {off : Int} {tgt : Nat} (hd : decode M.2.1 pc = .ok (.ifCond .ge off, 3)) (ht : (pc : Int) + off = (tgt : Int)) (k1 : 0 ≤ x → AW g M d tgt L st σ bc bs Q) (k2 : ¬ 0 ≤ x → AW g M d (pc + 3) L st σ bc bs Q) : AW g M d pc L (.int x :: st) σ bc bs Q := aw_2 (fun C a b => lv_if_ge C.1 C.2.1 hd ht a b) k1 k2
theorem aw_ifnonnull {x : Nat} {off : Int} {tgt : Nat} (hd : decode M.2.1 pc = .ok (.ifnonnull off, 3)) (ht : (pc : Int) + off = (tgt : Int)) (k : AW g M d tgt L st σ bc bs Q) : AW g M d pc L (.ref x :: st) σ bc bs Q := aw_1 (fun C _ w => lv_ifnonnull C.1 C.2.1 hd ht w) k
theorem aw_tableIn {dflt lo hi : Int} {offs : Array Int} {len : Nat} {x : Int32} {off : Int} {tgt : Nat} (hd : decode M.2.1 pc = .ok (.tableswitch dflt lo hi offs, len)) (h1 : ¬ x.toInt < lo) (h2 : ¬ hi < x.toInt) (ho : offs[(x.toInt - lo).toNat]? = some off) (ht : (pc : Int) + off = (tgt : Int)) (k : AW g M d tgt L st σ bc bs Q) : AW g M d pc L (.int x :: st) σ bc bs Q := aw_1 (fun C _ w => lv_tableIn C.1 C.2.1 hd h1 h2 ho ht w) k
theorem aw_tableOut {dflt lo hi : Int} {offs : Array Int} {len : Nat} {x : Int32} {tgt : Nat} (hd : decode M.2.1 pc = .ok (.tableswitch dflt lo hi offs, len)) (h : x.toInt < lo ∨ hi < x.toInt) (ht : (pc : Int) + dflt = (tgt : Int)) (k : AW g M d tgt L st σ bc bs Q) : AW g M d pc L (.int x :: st) σ bc bs Q := aw_1 (fun C _ w => lv_tableOut C.1 C.2.1 hd h ht w) k
theorem aw_ldc {own : String} {index : Nat} {v : Int32} (hd : decode M.2.1 pc = .ok (.ldc index, 2)) (hown : M.1 = own) (hc : Cond.constant own index v ∈ lw_tbl) (k : AW g M d (pc + 2) L (.int v :: st) σ bc bs Q) : AW g M d pc L st σ bc bs Q := aw_1 (fun C _ w => lv_ldc C.1 C.2.1 (by rw [← hown]; exact C.2.2.2.1) (C.2.2.2.2.1 _ (aw_in hc rfl)) hd w) k
theorem aw_ldcw {own : String} {index : Nat} {v : Int32} (hd : decode M.2.1 pc = .ok (.ldc_w index, 3)) (hown : M.1 = own) (hc : Cond.constant own index v ∈ lw_tbl) (k : AW g M d (pc + 3) L (.int v :: st) σ bc bs Q) : AW g M d pc L st σ bc bs Q := aw_1 (fun C _ w => lv_ldcw C.1 C.2.1 (by rw [← hown]; exact C.2.2.2.1) (C.2.2.2.2.1 _ (aw_in hc rfl)) hd w) k
theorem aw_ldc2 {own : String} {index : Nat} {v : Int64} (hd : decode M.2.1 pc = .ok (.ldc2_w index, 3)) (hown : M.1 = own) (hc : Cond.constantLong own index v ∈ lw_tbl) (k : AW g M d (pc + 3) L (.long v :: st) σ bc bs Q) : AW g M d pc L st σ bc bs Q := aw_1 (fun C _ w => lv_ldc2 C.1 C.2.1 (by rw [← hown]; exact C.2.2.2.1) (C.2.2.2.2.1 _ (aw_in hc rfl)) hd w) k
theorem aw_ldc2d {own : String} {index : Nat} {v : UInt64} (hd : decode M.2.1 pc = .ok (.ldc2_w index, 3)) (hown : M.1 = own) (hc : Cond.constantDouble own index v ∈ lw_tbl) (k : AW g M d (pc + 3) L (.double v :: st) σ bc bs Q) : AW g M d pc L st σ bc bs Q := aw_1 (fun C _ w => lv_ldc2d C.1 C.2.1 (by rw [← hown]; exact C.2.2.2.1) (C.2.2.2.2.1 _ (aw_in hc rfl)) hd w) k
theorem aw_objinit {own : String} {index a : Nat} (hd : decode M.2.1 pc = .ok (.invokespecial index, 3)) (hown : M.1 = own) (hlk : Cond.methodLink own index Lib.objectInit ∈ lw_tbl) (hin : Cond.instanceMethod Lib.objectInit ∈ lw_tbl) (hcd : Cond.code Lib.objectInit ⟨#[0xb1]⟩ 1 none ∈ lw_tbl) (hdd : 1 ≤ d) (hcat : (st.map fun v => v.category).sum ≤ 8) (k : AW g M d (pc + 3) L st σ bc bs Q) : AW g M d pc L (.ref a :: st) σ bc bs Q :=
  aw_1 (fun {_ _ _ _ _ _ _ _ _ _ _ ad _ _ _ _ _} C hl w => W.objInit C.1 C.2.1 (by rw [← hown]; exact C.2.2.2.1) (C.2.2.2.2.1 _ (aw_in hlk rfl)) (C.2.2.2.2.1 _ (aw_in hin rfl)) (C.2.2.2.2.1 _ (aw_in hcd rfl)) rfl (by rw [C.2.2.1]; exact hl.1) rfl hd (by have := C.2.2.2.2.2.2.2.2.2.1; omega) (by have h1 := C.2.2.2.2.2.2.2.2.2.2; have h2 := lv_room (aw_rm (ad := ad) hcat) (m := ‹MethodId›) (pc := pc) (ls := #[]) (rest := []); show 2 * 0 + _ + 12 ≤ _; have h3 := aw_rm (ad := ad) hcat; omega) w) k
theorem aw_mmax {own : String} {index : Nat} {x y : Int32} (hd : decode M.2.1 pc = .ok (.invokestatic index, 3)) (hown : M.1 = own) (hlk : Cond.methodLink own index Lib.Math.max.name ∈ lw_tbl) (hst : Cond.static Lib.Math.max.name ∈ lw_tbl) (hini : Cond.initialized "java/lang/Math" ∈ lw_tbl) (hcd : Cond.code Lib.Math.max.name Lib.Math.max.code 2 (some .int) ∈ lw_tbl) (hdd : 1 ≤ d) (hcat : (st.map fun v => v.category).sum ≤ 8) (k : AW g M d (pc + 3) L (.int (if x < y then y else x) :: st) σ bc bs Q) : AW g M d pc L (.int y :: .int x :: st) σ bc bs Q := by
  intro p e R s m args below meth c QQ mcT msT ad0 n0 C F ad H locs cells slots ls hh hR hS hl
  have h3 := aw_rm (ad := ad) hcat
  have h1 := C.2.2.2.2.2.2.2.2.2
  exact va_mmax C.1 C.2.1 (by rw [C.2.2.1]; exact hl.1.symm) (by rw [← hown]; exact C.2.2.2.1) (C.2.2.2.2.1 _ (aw_in hlk rfl)) (C.2.2.2.2.1 _ (aw_in hst rfl)) (C.2.2.2.2.1 _ (aw_in hini rfl)) (C.2.2.2.2.1 _ (aw_in hcd rfl)) (by omega) (by omega) (by omega) (by omega) hd (k p e R s m args below meth c QQ mcT msT ad0 n0 C F ad H locs cells slots ls hh hR hS hl)
theorem aw_mmin {own : String} {index : Nat} {x y : Int32} (hd : decode M.2.1 pc = .ok (.invokestatic index, 3)) (hown : M.1 = own) (hlk : Cond.methodLink own index Lib.Math.min.name ∈ lw_tbl) (hst : Cond.static Lib.Math.min.name ∈ lw_tbl) (hini : Cond.initialized "java/lang/Math" ∈ lw_tbl) (hcd : Cond.code Lib.Math.min.name Lib.Math.min.code 2 (some .int) ∈ lw_tbl) (hdd : 1 ≤ d) (hcat : (st.map fun v => v.category).sum ≤ 8) (k : AW g M d (pc + 3) L (.int (if y < x then y else x) :: st) σ bc bs Q) : AW g M d pc L (.int y :: .int x :: st) σ bc bs Q := by
  intro p e R s m args below meth c QQ mcT msT ad0 n0 C F ad H locs cells slots ls hh hR hS hl
  have h3 := aw_rm (ad := ad) hcat
  have h1 := C.2.2.2.2.2.2.2.2.2
  exact va_mmin C.1 C.2.1 (by rw [C.2.2.1]; exact hl.1.symm) (by rw [← hown]; exact C.2.2.2.1) (C.2.2.2.2.1 _ (aw_in hlk rfl)) (C.2.2.2.2.1 _ (aw_in hst rfl)) (C.2.2.2.2.1 _ (aw_in hini rfl)) (C.2.2.2.2.1 _ (aw_in hcd rfl)) (by omega) (by omega) (by omega) (by omega) hd (k p e R s m args below meth c QQ mcT msT ad0 n0 C F ad H locs cells slots ls hh hR hS hl)
theorem aw_mabs {own : String} {index : Nat} {x : Int32} (hd : decode M.2.1 pc = .ok (.invokestatic index, 3)) (hown : M.1 = own) (hlk : Cond.methodLink own index Lib.Math.abs.name ∈ lw_tbl) (hst : Cond.static Lib.Math.abs.name ∈ lw_tbl) (hini : Cond.initialized "java/lang/Math" ∈ lw_tbl) (hcd : Cond.code Lib.Math.abs.name Lib.Math.abs.code 1 (some .int) ∈ lw_tbl) (hdd : 1 ≤ d) (hcat : (st.map fun v => v.category).sum ≤ 8) (k : AW g M d (pc + 3) L (.int (if 0 ≤ x then x else 0 - x) :: st) σ bc bs Q) : AW g M d pc L (.int x :: st) σ bc bs Q := by
  intro p e R s m args below meth c QQ mcT msT ad0 n0 C F ad H locs cells slots ls hh hR hS hl
  have h3 := aw_rm (ad := ad) hcat
  have h1 := C.2.2.2.2.2.2.2.2.2
  exact va_mabs C.1 C.2.1 (by rw [C.2.2.1]; exact hl.1.symm) (by rw [← hown]; exact C.2.2.2.1) (C.2.2.2.2.1 _ (aw_in hlk rfl)) (C.2.2.2.2.1 _ (aw_in hst rfl)) (C.2.2.2.2.1 _ (aw_in hini rfl)) (C.2.2.2.2.1 _ (aw_in hcd rfl)) (by omega) (by omega) (by omega) (by omega) hd (k p e R s m args below meth c QQ mcT msT ad0 n0 C F ad H locs cells slots ls hh hR hS hl)
/-- reads of the arrays that nobody writes -/
theorem aw_ialoadR {a n : Nat} {f : Nat → Int32} {i : Int32} {x : Int32} (hd : decode M.2.1 pc = .ok (.iaload, 1)) (hs : ro g a = some (n, f)) (hin : vp_in i n) (hx : f i.toNatClampNeg = x) (k : AW g M d (pc + 1) L (.int x :: st) σ bc bs Q) : AW g M d pc L (.int i :: .ref a :: st) σ bc bs Q := by
  intro p e R s m args below meth c QQ mcT msT ad0 n0 C F ad H locs cells slots ls hh hR hS hl
  have ha : ad a = ad0 a := hh.2.1 a (Or.inr (by
    unfold ro at hs
    by_cases a1 : a = 1000000
    · omega
    · by_cases a2 : a = 1000001
      · omega
      · by_cases a3 : a = 1000002
        · omega
        · rw [if_neg a1, if_neg a2, if_neg a3] at hs; cases hs))
  subst hx
  exact va_ti C.1 C.2.1 (t := ad a) (N := n) (f := fun j => .int (f j)) (v := .int (f i.toNatClampNeg)) (by rw [ha]; exact C.2.2.2.2.2.1.2.2.1 a n f hs) hS hin rfl hd (k p e R s m args below meth c QQ mcT msT ad0 n0 C F ad H locs cells slots ls hh hR hS hl)
theorem aw_alenR {a n : Nat} {f : Nat → Int32} {v : Int32} (hd : decode M.2.1 pc = .ok (.arraylength, 1)) (hs : ro g a = some (n, f)) (hv : Int32.ofNat n = v) (k : AW g M d (pc + 1) L (.int v :: st) σ bc bs Q) : AW g M d pc L (.ref a :: st) σ bc bs Q := by
  intro p e R s m args below meth c QQ mcT msT ad0 n0 C F ad H locs cells slots ls hh hR hS hl
  have ha : ad a = ad0 a := hh.2.1 a (Or.inr (by
    unfold ro at hs
    by_cases a1 : a = 1000000
    · omega
    · by_cases a2 : a = 1000001
      · omega
      · by_cases a3 : a = 1000002
        · omega
        · rw [if_neg a1, if_neg a2, if_neg a3] at hs; cases hs))
  exact va_tlen C.1 C.2.1 (t := ad a) (by rw [ha]; exact C.2.2.2.2.2.1.2.2.1 a n f hs) hS hv hd (k p e R s m args below meth c QQ mcT msT ad0 n0 C F ad H locs cells slots ls hh hR hS hl)
theorem aw_getMost {own : String} {index : Nat} (hd : decode M.2.1 pc = .ok (.getstatic index, 3)) (hown : M.1 = own) (hlk : Cond.fieldLink own index "DuctRake" "MOST_VALUES" "[I" ∈ lw_tbl) (k : AW g M d (pc + 3) L (.ref 1000002 :: st) σ bc bs Q) : AW g M d pc L st σ bc bs Q := by
  intro p e R s m args below meth c QQ mcT msT ad0 n0 C F ad H locs cells slots ls hh hR hS hl
  have ha : ad 1000002 = ad0 1000002 := hh.2.1 _ (Or.inr (by omega))
  exact va_gets C.1 C.2.1 (v := .ref (ad 1000002)) (by rw [ha]; exact C.2.2.2.2.2.1.2.2.2.2.1) hS (by rw [← hown]; exact C.2.2.2.1) (C.2.2.2.2.1 _ (aw_in hlk rfl)) (fun _ h => h) hd (k p e R s m args below meth c QQ mcT msT ad0 n0 C F ad H locs cells slots ls hh hR hS hl)
theorem aw_getFirst {index : Nat} (hd : decode M.2.1 pc = .ok (.getstatic index, 3)) (hown : M.1 = RX5) (hix : index = 18) (k : AW g M d (pc + 3) L (.ref 1000001 :: st) σ bc bs Q) : AW g M d pc L st σ bc bs Q := by
  intro p e R s m args below meth c QQ mcT msT ad0 n0 C F ad H locs cells slots ls hh hR hS hl
  have ha : ad 1000001 = ad0 1000001 := hh.2.1 _ (Or.inr (by omega))
  subst hix
  exact va_getsN C.1 C.2.1 (v := .ref (ad 1000001)) (by rw [ha]; exact C.2.2.2.2.2.1.2.2.2.1) hS (by rw [← hown]; exact C.2.2.2.1) (va_Nw.use rfl C.2.2.2.2.2.1.2.2.2.2.2.2.2.2.2.2.2.1) (fun _ h => h) hd (k p e R s m args below meth c QQ mcT msT ad0 n0 C F ad H locs cells slots ls hh hR hS hl)
theorem aw_baload {a : Nat} {l : List Int32} {i : Int32} {x : Int32} (hd : decode M.2.1 pc = .ok (.baload, 1)) (hs : σ[a]? = some (ac_z l)) (hin : vp_in i l.length) (hx : l.getD i.toNatClampNeg 0 = x) (k : AW g M d (pc + 1) L (.int x :: st) σ bc bs Q) : AW g M d pc L (.int i :: .ref a :: st) σ bc bs Q := by
  intro p e R s m args below meth c QQ mcT msT ad0 n0 C' F ad H locs cells slots ls hh hR hS hl
  subst hx
  exact va_zald C'.1 C'.2.1 C'.2.2.2.2.2.1.1 hR.1 a 1 (wd_get hs) rfl hin hd (k p e R s m args below meth c QQ mcT msT ad0 n0 C' F ad H locs cells slots ls hh hR hS hl)
theorem aw_bastore {a : Nat} {l l' : List Int32} {i : Int32} {x : Int32} {σ' : AS} (hd : decode M.2.1 pc = .ok (.bastore, 1)) (hs : σ[a]? = some (ac_z l)) (hin : vp_in i l.length) (hx : l.set i.toNatClampNeg (vp_nar .boolean x) = l') (hσ : σ.set a (ac_z l') = σ') (k : AW g M d (pc + 1) L st σ' bc bs Q) : AW g M d pc L (.int x :: .int i :: .ref a :: st) σ bc bs Q := by
  intro p e R s m args below meth c QQ mcT msT ad0 n0 C' F ad H locs cells slots ls hh hR hS hl
  refine va_zast C'.1 C'.2.1 C'.2.2.2.2.2.1.1 hR.1 hR.2 hS a 1 (wd_get hs) rfl hin hd (fun H1 locs1 hP hD hS1 => ?_)
  rw [← ce_z g ad l _ _ (by have := (vp_in_iff.mp hin); unfold vp_in at hin; omega), ← wd_set, hx, hσ] at hP hD
  exact k p e R s m args below meth c QQ mcT msT ad0 n0 C' F ad H1 locs1 cells slots ls (by rw [← hσ, List.length_set]; exact hh) ⟨hP, hD⟩ hS1 hl
theorem aw_lastore {a : Nat} {l l' : List Int64} {i : Int32} {x : Int64} {σ' : AS} (hd : decode M.2.1 pc = .ok (.lastore, 1)) (hs : σ[a]? = some (ac_j l)) (hin : vp_in i l.length) (hx : l.set i.toNatClampNeg x = l') (hσ : σ.set a (ac_j l') = σ') (k : AW g M d (pc + 1) L st σ' bc bs Q) : AW g M d pc L (.long x :: .int i :: .ref a :: st) σ bc bs Q := by
  intro p e R s m args below meth c QQ mcT msT ad0 n0 C' F ad H locs cells slots ls hh hR hS hl
  refine va_last C'.1 C'.2.1 C'.2.2.2.2.2.1.1 hR.1 hR.2 hS a 2 (wd_get hs) rfl hin hd (fun H1 locs1 hP hD hS1 => ?_)
  rw [← ce_j g ad l _ _ (by have := (vp_in_iff.mp hin); unfold vp_in at hin; omega), ← wd_set, hx, hσ] at hP hD
  exact k p e R s m args below meth c QQ mcT msT ad0 n0 C' F ad H1 locs1 cells slots ls (by rw [← hσ, List.length_set]; exact hh) ⟨hP, hD⟩ hS1 hl
theorem aw_laload {a : Nat} {l : List Int64} {i : Int32} {x : Int64} (hd : decode M.2.1 pc = .ok (.laload, 1)) (hs : σ[a]? = some (ac_j l)) (hin : vp_in i l.length) (hx : l.getD i.toNatClampNeg 0 = x) (k : AW g M d (pc + 1) L (.long x :: st) σ bc bs Q) : AW g M d pc L (.int i :: .ref a :: st) σ bc bs Q := by
  intro p e R s m args below meth c QQ mcT msT ad0 n0 C' F ad H locs cells slots ls hh hR hS hl
  subst hx
  exact va_lald C'.1 C'.2.1 C'.2.2.2.2.2.1.1 hR.1 a 2 (wd_get hs) rfl hin hd (k p e R s m args below meth c QQ mcT msT ad0 n0 C' F ad H locs cells slots ls hh hR hS hl)
theorem aw_aaload {a b : Nat} {l : List (Option Nat)} {i : Int32} (hd : decode M.2.1 pc = .ok (.aaload, 1)) (hs : σ[a]? = some (ac_r l)) (hin : vp_in i l.length) (hx : l.getD i.toNatClampNeg none = some b) (k : AW g M d (pc + 1) L (.ref b :: st) σ bc bs Q) : AW g M d pc L (.int i :: .ref a :: st) σ bc bs Q := by
  intro p e R s m args below meth c QQ mcT msT ad0 n0 C' F ad H locs cells slots ls hh hR hS hl
  refine va_aldq C'.1 C'.2.1 C'.2.2.2.2.2.1.1 hR.1 a 3 (wd_get hs) rfl hin hd ?_
  show W p g.1 e R s m args below meth c H locs cells slots QQ (F0 m (pc + 1) ls (va_rf ((l.getD i.toNatClampNeg none).map ad) :: st.map (cv ad)))
  rw [hx]
  exact k p e R s m args below meth c QQ mcT msT ad0 n0 C' F ad H locs cells slots ls hh hR hS hl
theorem aw_aastore {a b : Nat} {T : u_T} {N ci : Nat} {vs : List Value} {l l' : List (Option Nat)} {i : Int32} {σ' : AS} (hd : decode M.2.1 pc = .ok (.aastore, 1)) (hs : σ[a]? = some (ac_r l)) (hb : σ[b]? = some (ac_o ci vs)) (hc : vwCl[ci]? = some ("DuctRake$State", T, N)) (hin : vp_in i l.length) (hx : l.set i.toNatClampNeg (some b) = l') (hσ : σ.set a (ac_r l') = σ') (k : AW g M d (pc + 1) L st σ' bc bs Q) : AW g M d pc L (.ref b :: .int i :: .ref a :: st) σ bc bs Q := by
  intro p e R s m args below meth c QQ mcT msT ad0 n0 C' F ad H locs cells slots ls hh hR hS hl
  refine va_astq C'.1 C'.2.1 C'.2.2.2.2.2.1.1 hR.1 hR.2 hS a 3 b ci (r := ("DuctRake$State", T, N)) (wd_get hs) rfl (wd_get hb) hc hin hd (fun H1 locs1 hP hD hS1 => ?_)
  rw [← ce_r g ad l _ _ (by have := (vp_in_iff.mp hin); unfold vp_in at hin; omega), ← wd_set, hx, hσ] at hP hD
  exact k p e R s m args below meth c QQ mcT msT ad0 n0 C' F ad H1 locs1 cells slots ls (by rw [← hσ, List.length_set]; exact hh) ⟨hP, hD⟩ hS1 hl
theorem aw_putfieldF {own C : String} {T : u_T} {N ci index a : Nat} {ty0 : Nat → FieldType} {fs fs' : List Value} {v : Value} (hd : decode M.2.1 pc = .ok (.putfield index, 3)) (hown : M.1 = own) (hi0 : M.2.2.2.2 = true) (hc : vwCl[ci]? = some (C, T, N)) (hin : ∀ w ∈ u_ws C T N, w ∈ lw_tbl) (hty : ∀ k, k < N → parseFieldDescriptor (T k).2.2.1 = some (ty0 k)) (hnm : ∀ a, a < N → ∀ b, b < N → a ≠ b → (T a).2.1 ≠ (T b).2.1) (hs : σ[a]? = some (ac_o ci fs)) (i : Nat) (hi : i < N) (hlink : Cond.fieldLink own index (T i).1 (T i).2.1 (T i).2.2.1 ∈ lw_tbl) (hfin : (T i).2.2.2 = true) (hdecl : (T i).1 = own) (hn : ∀ ad, narrow (ty0 i) (cv ad v) = cv ad v) (hfit : ∀ ad, fits (ty0 i) (cv ad v) = true) (hl : i < fs.length) (hfs : fs.set i v = fs') {σ' : AS} (hσ : σ.set a (ac_o ci fs') = σ') (k : AW g M d (pc + 3) L st σ' bc bs Q) : AW g M d pc L (v :: .ref a :: st) σ bc bs Q := by
  intro p e R s m args below meth c QQ mcT msT ad0 n0 C' F ad H locs cells slots ls hh hR hS hl9
  subst hown
  refine va_putF C'.1 C'.2.1 C'.2.2.2.2.1 (aw_lay hin) ty0 hty hnm C'.2.2.2.1 C'.2.2.2.2.2.1.1 hR.1 hR.2 hS a (wd_get hs) hc i hi (C'.2.2.2.2.1 _ (aw_in hlink rfl)) (fun _ h9 => h9) hfin (C'.2.2.2.2.2.2.2.2.1 hi0) hdecl (hty i hi) (hn ad) (hfit ad) (by rw [List.length_map]; exact hl) hd (fun H1 locs1 hP hD hS1 => ?_)
  have he : (wd g ad σ).set a (ad a, .inr (ci, (fs.map (cv ad)).set i (cv ad v))) = wd g ad σ' := by
    rw [← hσ, wd_set, ← hfs]
    show _ = (wd g ad σ).set a (ad a, .inr (ci, (fs.set i v).map (cv ad)))
    rw [List.map_set]
  rw [he] at hP hD
  exact k p e R s m args below meth c QQ mcT msT ad0 n0 C' F ad H1 locs1 cells slots ls (by rw [← hσ, List.length_set]; exact hh) ⟨hP, hD⟩ hS1 hl9
theorem aw_lreturn {x : Int64} (hd : decode M.2.1 pc = .ok (.lreturn, 1)) (hty : M.2.2.2.1 = some .long) (k : Q (.inl (some (.long x))) σ) : AW g M d pc L [.long x] σ bc bs Q := by
  intro p e R s m args below meth c QQ mcT msT ad0 n0 C' F ad H locs cells slots ls hh hR hS hl
  exact (F ad σ H locs cells slots hh.1 hh.2.1 hh.2.2.1 hR hS (by omega) (by omega)).2.1 x pc ls k hty hd
theorem aw_dreturn {x : UInt64} (hd : decode M.2.1 pc = .ok (.dreturn, 1)) (hty : M.2.2.2.1 = some .double) (k : Q (.inl (some (.double x))) σ) : AW g M d pc L [.double x] σ bc bs Q := by
  intro p e R s m args below meth c QQ mcT msT ad0 n0 C' F ad H locs cells slots ls hh hR hS hl
  exact (F ad σ H locs cells slots hh.1 hh.2.1 hh.2.2.1 hR hS (by omega) (by omega)).2.2.1 x pc ls k hty hd
theorem aw_areturn {x : Nat} {n : String} (hd : decode M.2.1 pc = .ok (.areturn, 1)) (hty : M.2.2.2.1 = some (.object n)) (k : Q (.inl (some (.ref x))) σ) : AW g M d pc L [.ref x] σ bc bs Q := by
  intro p e R s m args below meth c QQ mcT msT ad0 n0 C' F ad H locs cells slots ls hh hR hS hl
  exact (F ad σ H locs cells slots hh.1 hh.2.1 hh.2.2.1 hR hS (by omega) (by omega)).2.2.2.1 x pc ls n k hty hd
theorem aw_return (hd : decode M.2.1 pc = .ok (.return_, 1)) (hty : M.2.2.2.1 = none) (k : Q (.inl none) σ) : AW g M d pc L [] σ bc bs Q := by
  intro p e R s m args below meth c QQ mcT msT ad0 n0 C' F ad H locs cells slots ls hh hR hS hl
  exact (F ad σ H locs cells slots hh.1 hh.2.1 hh.2.2.1 hR hS (by omega) (by omega)).2.2.2.2 pc ls k hty hd
end RULES2
end
section
abbrev mX0_quotient : AM := (RX0, cX0_quotient, 2, (Option.some Jvm.ClassFile.FieldType.int), false)
theorem ydX0_quotient : yX0_quotient.cls ≠ "java/lang/invoke/MethodHandle" ∧ yX0_quotient.cls ≠ "java/lang/invoke/VarHandle" ∧ (parseMethodDescriptor yX0_quotient.desc).map (fun d => d.parameters.length) = some 2 := by decide +kernel
abbrev mX0_wholeRoot : AM := (RX0, cX0_wholeRoot, 6, (Option.some Jvm.ClassFile.FieldType.int), false)
theorem ydX0_wholeRoot : yX0_wholeRoot.cls ≠ "java/lang/invoke/MethodHandle" ∧ yX0_wholeRoot.cls ≠ "java/lang/invoke/VarHandle" ∧ (parseMethodDescriptor yX0_wholeRoot.desc).map (fun d => d.parameters.length) = some 1 := by decide +kernel
abbrev mX0_bitsOfShare : AM := (RX0, cX0_bitsOfShare, 8, (Option.some Jvm.ClassFile.FieldType.long), false)
theorem ydX0_bitsOfShare : yX0_bitsOfShare.cls ≠ "java/lang/invoke/MethodHandle" ∧ yX0_bitsOfShare.cls ≠ "java/lang/invoke/VarHandle" ∧ (parseMethodDescriptor yX0_bitsOfShare.desc).map (fun d => d.parameters.length) = some 1 := by decide +kernel
abbrev mX1_init : AM := (RX1, cX1_init, 1, (Option.none : Option Jvm.ClassFile.FieldType), true)
theorem ydX1_init : yX1_init.cls ≠ "java/lang/invoke/MethodHandle" ∧ yX1_init.cls ≠ "java/lang/invoke/VarHandle" ∧ (parseMethodDescriptor yX1_init.desc).map (fun d => d.parameters.length) = some 0 := by decide +kernel
abbrev mX1_become : AM := (RX1, cX1_become, 2, (Option.none : Option Jvm.ClassFile.FieldType), false)
theorem ydX1_become : yX1_become.cls ≠ "java/lang/invoke/MethodHandle" ∧ yX1_become.cls ≠ "java/lang/invoke/VarHandle" ∧ (parseMethodDescriptor yX1_become.desc).map (fun d => d.parameters.length) = some 1 := by decide +kernel
abbrev mX1_headOf : AM := (RX1, cX1_headOf, 3, (Option.some Jvm.ClassFile.FieldType.int), false)
theorem ydX1_headOf : yX1_headOf.cls ≠ "java/lang/invoke/MethodHandle" ∧ yX1_headOf.cls ≠ "java/lang/invoke/VarHandle" ∧ (parseMethodDescriptor yX1_headOf.desc).map (fun d => d.parameters.length) = some 2 := by decide +kernel
abbrev mX1_isCounting : AM := (RX1, cX1_isCounting, 4, (Option.some Jvm.ClassFile.FieldType.boolean), false)
theorem ydX1_isCounting : yX1_isCounting.cls ≠ "java/lang/invoke/MethodHandle" ∧ yX1_isCounting.cls ≠ "java/lang/invoke/VarHandle" ∧ (parseMethodDescriptor yX1_isCounting.desc).map (fun d => d.parameters.length) = some 3 := by decide +kernel
abbrev mX1_add : AM := (RX1, cX1_add, 5, (Option.none : Option Jvm.ClassFile.FieldType), false)
theorem ydX1_add : yX1_add.cls ≠ "java/lang/invoke/MethodHandle" ∧ yX1_add.cls ≠ "java/lang/invoke/VarHandle" ∧ (parseMethodDescriptor yX1_add.desc).map (fun d => d.parameters.length) = some 3 := by decide +kernel
abbrev mX1_remove : AM := (RX1, cX1_remove, 4, (Option.none : Option Jvm.ClassFile.FieldType), false)
theorem ydX1_remove : yX1_remove.cls ≠ "java/lang/invoke/MethodHandle" ∧ yX1_remove.cls ≠ "java/lang/invoke/VarHandle" ∧ (parseMethodDescriptor yX1_remove.desc).map (fun d => d.parameters.length) = some 1 := by decide +kernel
abbrev mX2_at : AM := (RX2, cX2_at, 2, (Option.some Jvm.ClassFile.FieldType.int), false)
theorem ydX2_at : yX2_at.cls ≠ "java/lang/invoke/MethodHandle" ∧ yX2_at.cls ≠ "java/lang/invoke/VarHandle" ∧ (parseMethodDescriptor yX2_at.desc).map (fun d => d.parameters.length) = some 2 := by decide +kernel
abbrev mX2_put : AM := (RX2, cX2_put, 3, (Option.none : Option Jvm.ClassFile.FieldType), false)
theorem ydX2_put : yX2_put.cls ≠ "java/lang/invoke/MethodHandle" ∧ yX2_put.cls ≠ "java/lang/invoke/VarHandle" ∧ (parseMethodDescriptor yX2_put.desc).map (fun d => d.parameters.length) = some 3 := by decide +kernel
abbrev mX2_copy : AM := (RX2, cX2_copy, 3, (Option.none : Option Jvm.ClassFile.FieldType), false)
theorem ydX2_copy : yX2_copy.cls ≠ "java/lang/invoke/MethodHandle" ∧ yX2_copy.cls ≠ "java/lang/invoke/VarHandle" ∧ (parseMethodDescriptor yX2_copy.desc).map (fun d => d.parameters.length) = some 2 := by decide +kernel
abbrev mX2_clear : AM := (RX2, cX2_clear, 2, (Option.none : Option Jvm.ClassFile.FieldType), false)
theorem ydX2_clear : yX2_clear.cls ≠ "java/lang/invoke/MethodHandle" ∧ yX2_clear.cls ≠ "java/lang/invoke/VarHandle" ∧ (parseMethodDescriptor yX2_clear.desc).map (fun d => d.parameters.length) = some 1 := by decide +kernel
abbrev mX3_init : AM := (RX3, cX3_init, 2, (Option.none : Option Jvm.ClassFile.FieldType), true)
theorem ydX3_init : yX3_init.cls ≠ "java/lang/invoke/MethodHandle" ∧ yX3_init.cls ≠ "java/lang/invoke/VarHandle" ∧ (parseMethodDescriptor yX3_init.desc).map (fun d => d.parameters.length) = some 0 := by decide +kernel
abbrev mX3_push : AM := (RX3, cX3_push, 3, (Option.none : Option Jvm.ClassFile.FieldType), false)
theorem ydX3_push : yX3_push.cls ≠ "java/lang/invoke/MethodHandle" ∧ yX3_push.cls ≠ "java/lang/invoke/VarHandle" ∧ (parseMethodDescriptor yX3_push.desc).map (fun d => d.parameters.length) = some 1 := by decide +kernel
abbrev mX3_popInto : AM := (RX3, cX3_popInto, 4, (Option.none : Option Jvm.ClassFile.FieldType), false)
theorem ydX3_popInto : yX3_popInto.cls ≠ "java/lang/invoke/MethodHandle" ∧ yX3_popInto.cls ≠ "java/lang/invoke/VarHandle" ∧ (parseMethodDescriptor yX3_popInto.desc).map (fun d => d.parameters.length) = some 1 := by decide +kernel
abbrev mX3_stateAt : AM := (RX3, cX3_stateAt, 2, (Option.some (Jvm.ClassFile.FieldType.object "DuctRake$State")), false)
theorem ydX3_stateAt : yX3_stateAt.cls ≠ "java/lang/invoke/MethodHandle" ∧ yX3_stateAt.cls ≠ "java/lang/invoke/VarHandle" ∧ (parseMethodDescriptor yX3_stateAt.desc).map (fun d => d.parameters.length) = some 1 := by decide +kernel
abbrev mX4_init : AM := (RX4, cX4_init, 1, (Option.none : Option Jvm.ClassFile.FieldType), true)
theorem ydX4_init : yX4_init.cls ≠ "java/lang/invoke/MethodHandle" ∧ yX4_init.cls ≠ "java/lang/invoke/VarHandle" ∧ (parseMethodDescriptor yX4_init.desc).map (fun d => d.parameters.length) = some 0 := by decide +kernel
abbrev mX5_init : AM := (RX5, cX5_init, 2, (Option.none : Option Jvm.ClassFile.FieldType), true)
theorem ydX5_init : yX5_init.cls ≠ "java/lang/invoke/MethodHandle" ∧ yX5_init.cls ≠ "java/lang/invoke/VarHandle" ∧ (parseMethodDescriptor yX5_init.desc).map (fun d => d.parameters.length) = some 0 := by decide +kernel
abbrev mX5_become : AM := (RX5, cX5_become, 2, (Option.none : Option Jvm.ClassFile.FieldType), false)
theorem ydX5_become : yX5_become.cls ≠ "java/lang/invoke/MethodHandle" ∧ yX5_become.cls ≠ "java/lang/invoke/VarHandle" ∧ (parseMethodDescriptor yX5_become.desc).map (fun d => d.parameters.length) = some 1 := by decide +kernel
abbrev mX5_putRake : AM := (RX5, cX5_putRake, 3, (Option.none : Option Jvm.ClassFile.FieldType), false)
theorem ydX5_putRake : yX5_putRake.cls ≠ "java/lang/invoke/MethodHandle" ∧ yX5_putRake.cls ≠ "java/lang/invoke/VarHandle" ∧ (parseMethodDescriptor yX5_putRake.desc).map (fun d => d.parameters.length) = some 1 := by decide +kernel
abbrev mX5_clearHole : AM := (RX5, cX5_clearHole, 2, (Option.none : Option Jvm.ClassFile.FieldType), false)
theorem ydX5_clearHole : yX5_clearHole.cls ≠ "java/lang/invoke/MethodHandle" ∧ yX5_clearHole.cls ≠ "java/lang/invoke/VarHandle" ∧ (parseMethodDescriptor yX5_clearHole.desc).map (fun d => d.parameters.length) = some 1 := by decide +kernel
abbrev mX5_workOfCleaning : AM := (RX5, cX5_workOfCleaning, 4, (Option.some Jvm.ClassFile.FieldType.int), false)
theorem ydX5_workOfCleaning : yX5_workOfCleaning.cls ≠ "java/lang/invoke/MethodHandle" ∧ yX5_workOfCleaning.cls ≠ "java/lang/invoke/VarHandle" ∧ (parseMethodDescriptor yX5_workOfCleaning.desc).map (fun d => d.parameters.length) = some 1 := by decide +kernel
abbrev mX5_addHoleWork : AM := (RX5, cX5_addHoleWork, 3, (Option.none : Option Jvm.ClassFile.FieldType), false)
theorem ydX5_addHoleWork : yX5_addHoleWork.cls ≠ "java/lang/invoke/MethodHandle" ∧ yX5_addHoleWork.cls ≠ "java/lang/invoke/VarHandle" ∧ (parseMethodDescriptor yX5_addHoleWork.desc).map (fun d => d.parameters.length) = some 2 := by decide +kernel
abbrev mX5_workOfHoles : AM := (RX5, cX5_workOfHoles, 3, (Option.some Jvm.ClassFile.FieldType.int), false)
theorem ydX5_workOfHoles : yX5_workOfHoles.cls ≠ "java/lang/invoke/MethodHandle" ∧ yX5_workOfHoles.cls ≠ "java/lang/invoke/VarHandle" ∧ (parseMethodDescriptor yX5_workOfHoles.desc).map (fun d => d.parameters.length) = some 0 := by decide +kernel
abbrev mX5_takeReading : AM := (RX5, cX5_takeReading, 3, (Option.none : Option Jvm.ClassFile.FieldType), false)
theorem ydX5_takeReading : yX5_takeReading.cls ≠ "java/lang/invoke/MethodHandle" ∧ yX5_takeReading.cls ≠ "java/lang/invoke/VarHandle" ∧ (parseMethodDescriptor yX5_takeReading.desc).map (fun d => d.parameters.length) = some 2 := by decide +kernel
abbrev mX6_init : AM := (RX6, cX6_init, 1, (Option.none : Option Jvm.ClassFile.FieldType), true)
theorem ydX6_init : yX6_init.cls ≠ "java/lang/invoke/MethodHandle" ∧ yX6_init.cls ≠ "java/lang/invoke/VarHandle" ∧ (parseMethodDescriptor yX6_init.desc).map (fun d => d.parameters.length) = some 0 := by decide +kernel
abbrev mX6_add : AM := (RX6, cX6_add, 2, (Option.none : Option Jvm.ClassFile.FieldType), false)
theorem ydX6_add : yX6_add.cls ≠ "java/lang/invoke/MethodHandle" ∧ yX6_add.cls ≠ "java/lang/invoke/VarHandle" ∧ (parseMethodDescriptor yX6_add.desc).map (fun d => d.parameters.length) = some 1 := by decide +kernel
abbrev mX6_firstWrong : AM := (RX6, cX6_firstWrong, 6, (Option.some Jvm.ClassFile.FieldType.int), false)
theorem ydX6_firstWrong : yX6_firstWrong.cls ≠ "java/lang/invoke/MethodHandle" ∧ yX6_firstWrong.cls ≠ "java/lang/invoke/VarHandle" ∧ (parseMethodDescriptor yX6_firstWrong.desc).map (fun d => d.parameters.length) = some 0 := by decide +kernel
abbrev mX6_tellsReading : AM := (RX6, cX6_tellsReading, 1, (Option.some Jvm.ClassFile.FieldType.boolean), false)
theorem ydX6_tellsReading : yX6_tellsReading.cls ≠ "java/lang/invoke/MethodHandle" ∧ yX6_tellsReading.cls ≠ "java/lang/invoke/VarHandle" ∧ (parseMethodDescriptor yX6_tellsReading.desc).map (fun d => d.parameters.length) = some 0 := by decide +kernel
abbrev mX6_headsInto : AM := (RX6, cX6_headsInto, 6, (Option.some Jvm.ClassFile.FieldType.int), false)
theorem ydX6_headsInto : yX6_headsInto.cls ≠ "java/lang/invoke/MethodHandle" ∧ yX6_headsInto.cls ≠ "java/lang/invoke/VarHandle" ∧ (parseMethodDescriptor yX6_headsInto.desc).map (fun d => d.parameters.length) = some 1 := by decide +kernel
abbrev mX6_isDigit : AM := (RX6, cX6_isDigit, 1, (Option.some Jvm.ClassFile.FieldType.boolean), false)
theorem ydX6_isDigit : yX6_isDigit.cls ≠ "java/lang/invoke/MethodHandle" ∧ yX6_isDigit.cls ≠ "java/lang/invoke/VarHandle" ∧ (parseMethodDescriptor yX6_isDigit.desc).map (fun d => d.parameters.length) = some 1 := by decide +kernel
abbrev mX7_init : AM := (RX7, cX7_init, 1, (Option.none : Option Jvm.ClassFile.FieldType), true)
theorem ydX7_init : yX7_init.cls ≠ "java/lang/invoke/MethodHandle" ∧ yX7_init.cls ≠ "java/lang/invoke/VarHandle" ∧ (parseMethodDescriptor yX7_init.desc).map (fun d => d.parameters.length) = some 0 := by decide +kernel
abbrev mX7_judge : AM := (RX7, cX7_judge, 2, (Option.none : Option Jvm.ClassFile.FieldType), false)
theorem ydX7_judge : yX7_judge.cls ≠ "java/lang/invoke/MethodHandle" ∧ yX7_judge.cls ≠ "java/lang/invoke/VarHandle" ∧ (parseMethodDescriptor yX7_judge.desc).map (fun d => d.parameters.length) = some 1 := by decide +kernel
abbrev mX7_judgeIfRight : AM := (RX7, cX7_judgeIfRight, 4, (Option.none : Option Jvm.ClassFile.FieldType), false)
theorem ydX7_judgeIfRight : yX7_judgeIfRight.cls ≠ "java/lang/invoke/MethodHandle" ∧ yX7_judgeIfRight.cls ≠ "java/lang/invoke/VarHandle" ∧ (parseMethodDescriptor yX7_judgeIfRight.desc).map (fun d => d.parameters.length) = some 3 := by decide +kernel
abbrev mX7_takeMeans : AM := (RX7, cX7_takeMeans, 5, (Option.none : Option Jvm.ClassFile.FieldType), false)
theorem ydX7_takeMeans : yX7_takeMeans.cls ≠ "java/lang/invoke/MethodHandle" ∧ yX7_takeMeans.cls ≠ "java/lang/invoke/VarHandle" ∧ (parseMethodDescriptor yX7_takeMeans.desc).map (fun d => d.parameters.length) = some 1 := by decide +kernel
abbrev mX7_giveReasons : AM := (RX7, cX7_giveReasons, 8, (Option.none : Option Jvm.ClassFile.FieldType), false)
theorem ydX7_giveReasons : yX7_giveReasons.cls ≠ "java/lang/invoke/MethodHandle" ∧ yX7_giveReasons.cls ≠ "java/lang/invoke/VarHandle" ∧ (parseMethodDescriptor yX7_giveReasons.desc).map (fun d => d.parameters.length) = some 2 := by decide +kernel
abbrev mX7_reasonFor : AM := (RX7, cX7_reasonFor, 4, (Option.some Jvm.ClassFile.FieldType.int), false)
theorem ydX7_reasonFor : yX7_reasonFor.cls ≠ "java/lang/invoke/MethodHandle" ∧ yX7_reasonFor.cls ≠ "java/lang/invoke/VarHandle" ∧ (parseMethodDescriptor yX7_reasonFor.desc).map (fun d => d.parameters.length) = some 3 := by decide +kernel
abbrev mX7_tellSpeeds : AM := (RX7, cX7_tellSpeeds, 4, (Option.none : Option Jvm.ClassFile.FieldType), false)
theorem ydX7_tellSpeeds : yX7_tellSpeeds.cls ≠ "java/lang/invoke/MethodHandle" ∧ yX7_tellSpeeds.cls ≠ "java/lang/invoke/VarHandle" ∧ (parseMethodDescriptor yX7_tellSpeeds.desc).map (fun d => d.parameters.length) = some 0 := by decide +kernel
abbrev mX7_mended : AM := (RX7, cX7_mended, 2, (Option.some Jvm.ClassFile.FieldType.int), false)
theorem ydX7_mended : yX7_mended.cls ≠ "java/lang/invoke/MethodHandle" ∧ yX7_mended.cls ≠ "java/lang/invoke/VarHandle" ∧ (parseMethodDescriptor yX7_mended.desc).map (fun d => d.parameters.length) = some 2 := by decide +kernel
abbrev mX7_flowOfRings : AM := (RX7, cX7_flowOfRings, 5, (Option.some Jvm.ClassFile.FieldType.int), false)
theorem ydX7_flowOfRings : yX7_flowOfRings.cls ≠ "java/lang/invoke/MethodHandle" ∧ yX7_flowOfRings.cls ≠ "java/lang/invoke/VarHandle" ∧ (parseMethodDescriptor yX7_flowOfRings.desc).map (fun d => d.parameters.length) = some 2 := by decide +kernel
abbrev mX7_countOfReason : AM := (RX7, cX7_countOfReason, 4, (Option.some Jvm.ClassFile.FieldType.int), false)
theorem ydX7_countOfReason : yX7_countOfReason.cls ≠ "java/lang/invoke/MethodHandle" ∧ yX7_countOfReason.cls ≠ "java/lang/invoke/VarHandle" ∧ (parseMethodDescriptor yX7_countOfReason.desc).map (fun d => d.parameters.length) = some 1 := by decide +kernel
abbrev mX7_leastByGreatest : AM := (RX7, cX7_leastByGreatest, 4, (Option.some Jvm.ClassFile.FieldType.double), false)
theorem ydX7_leastByGreatest : yX7_leastByGreatest.cls ≠ "java/lang/invoke/MethodHandle" ∧ yX7_leastByGreatest.cls ≠ "java/lang/invoke/VarHandle" ∧ (parseMethodDescriptor yX7_leastByGreatest.desc).map (fun d => d.parameters.length) = some 0 := by decide +kernel
abbrev mX8_distance : AM := (RX8, cX8_distance, 3, (Option.some Jvm.ClassFile.FieldType.int), false)
theorem ydX8_distance : yX8_distance.cls ≠ "java/lang/invoke/MethodHandle" ∧ yX8_distance.cls ≠ "java/lang/invoke/VarHandle" ∧ (parseMethodDescriptor yX8_distance.desc).map (fun d => d.parameters.length) = some 3 := by decide +kernel
abbrev mX8_speedAt : AM := (RX8, cX8_speedAt, 7, (Option.some Jvm.ClassFile.FieldType.int), false)
theorem ydX8_speedAt : yX8_speedAt.cls ≠ "java/lang/invoke/MethodHandle" ∧ yX8_speedAt.cls ≠ "java/lang/invoke/VarHandle" ∧ (parseMethodDescriptor yX8_speedAt.desc).map (fun d => d.parameters.length) = some 3 := by decide +kernel
abbrev mX8_headAt : AM := (RX8, cX8_headAt, 3, (Option.some Jvm.ClassFile.FieldType.int), false)
theorem ydX8_headAt : yX8_headAt.cls ≠ "java/lang/invoke/MethodHandle" ∧ yX8_headAt.cls ≠ "java/lang/invoke/VarHandle" ∧ (parseMethodDescriptor yX8_headAt.desc).map (fun d => d.parameters.length) = some 2 := by decide +kernel
abbrev mX8_feltAt : AM := (RX8, cX8_feltAt, 4, (Option.some Jvm.ClassFile.FieldType.int), false)
theorem ydX8_feltAt : yX8_feltAt.cls ≠ "java/lang/invoke/MethodHandle" ∧ yX8_feltAt.cls ≠ "java/lang/invoke/VarHandle" ∧ (parseMethodDescriptor yX8_feltAt.desc).map (fun d => d.parameters.length) = some 3 := by decide +kernel
abbrev mX8_whole : AM := (RX8, cX8_whole, 4, (Option.some Jvm.ClassFile.FieldType.int), false)
theorem ydX8_whole : yX8_whole.cls ≠ "java/lang/invoke/MethodHandle" ∧ yX8_whole.cls ≠ "java/lang/invoke/VarHandle" ∧ (parseMethodDescriptor yX8_whole.desc).map (fun d => d.parameters.length) = some 2 := by decide +kernel
abbrev mX8_flowOfRing : AM := (RX8, cX8_flowOfRing, 3, (Option.some Jvm.ClassFile.FieldType.int), false)
theorem ydX8_flowOfRing : yX8_flowOfRing.cls ≠ "java/lang/invoke/MethodHandle" ∧ yX8_flowOfRing.cls ≠ "java/lang/invoke/VarHandle" ∧ (parseMethodDescriptor yX8_flowOfRing.desc).map (fun d => d.parameters.length) = some 3 := by decide +kernel
abbrev mX9_init : AM := (RX9, cX9_init, 1, (Option.none : Option Jvm.ClassFile.FieldType), true)
theorem ydX9_init : yX9_init.cls ≠ "java/lang/invoke/MethodHandle" ∧ yX9_init.cls ≠ "java/lang/invoke/VarHandle" ∧ (parseMethodDescriptor yX9_init.desc).map (fun d => d.parameters.length) = some 0 := by decide +kernel
abbrev mX9_rake : AM := (RX9, cX9_rake, 3, (Option.some Jvm.ClassFile.FieldType.int), false)
theorem ydX9_rake : yX9_rake.cls ≠ "java/lang/invoke/MethodHandle" ∧ yX9_rake.cls ≠ "java/lang/invoke/VarHandle" ∧ (parseMethodDescriptor yX9_rake.desc).map (fun d => d.parameters.length) = some 1 := by decide +kernel
abbrev mX9_radius : AM := (RX9, cX9_radius, 3, (Option.some Jvm.ClassFile.FieldType.int), false)
theorem ydX9_radius : yX9_radius.cls ≠ "java/lang/invoke/MethodHandle" ∧ yX9_radius.cls ≠ "java/lang/invoke/VarHandle" ∧ (parseMethodDescriptor yX9_radius.desc).map (fun d => d.parameters.length) = some 1 := by decide +kernel
abbrev mX9_block : AM := (RX9, cX9_block, 4, (Option.some Jvm.ClassFile.FieldType.int), false)
theorem ydX9_block : yX9_block.cls ≠ "java/lang/invoke/MethodHandle" ∧ yX9_block.cls ≠ "java/lang/invoke/VarHandle" ∧ (parseMethodDescriptor yX9_block.desc).map (fun d => d.parameters.length) = some 2 := by decide +kernel
abbrev mX9_leak : AM := (RX9, cX9_leak, 4, (Option.some Jvm.ClassFile.FieldType.int), false)
theorem ydX9_leak : yX9_leak.cls ≠ "java/lang/invoke/MethodHandle" ∧ yX9_leak.cls ≠ "java/lang/invoke/VarHandle" ∧ (parseMethodDescriptor yX9_leak.desc).map (fun d => d.parameters.length) = some 2 := by decide +kernel
abbrev mX9_clean : AM := (RX9, cX9_clean, 3, (Option.some Jvm.ClassFile.FieldType.int), false)
theorem ydX9_clean : yX9_clean.cls ≠ "java/lang/invoke/MethodHandle" ∧ yX9_clean.cls ≠ "java/lang/invoke/VarHandle" ∧ (parseMethodDescriptor yX9_clean.desc).map (fun d => d.parameters.length) = some 1 := by decide +kernel
abbrev mX9_test : AM := (RX9, cX9_test, 4, (Option.some Jvm.ClassFile.FieldType.int), false)
theorem ydX9_test : yX9_test.cls ≠ "java/lang/invoke/MethodHandle" ∧ yX9_test.cls ≠ "java/lang/invoke/VarHandle" ∧ (parseMethodDescriptor yX9_test.desc).map (fun d => d.parameters.length) = some 1 := by decide +kernel
abbrev mX9_read : AM := (RX9, cX9_read, 2, (Option.some Jvm.ClassFile.FieldType.int), false)
theorem ydX9_read : yX9_read.cls ≠ "java/lang/invoke/MethodHandle" ∧ yX9_read.cls ≠ "java/lang/invoke/VarHandle" ∧ (parseMethodDescriptor yX9_read.desc).map (fun d => d.parameters.length) = some 0 := by decide +kernel
abbrev mX9_drop : AM := (RX9, cX9_drop, 2, (Option.some Jvm.ClassFile.FieldType.int), false)
theorem ydX9_drop : yX9_drop.cls ≠ "java/lang/invoke/MethodHandle" ∧ yX9_drop.cls ≠ "java/lang/invoke/VarHandle" ∧ (parseMethodDescriptor yX9_drop.desc).map (fun d => d.parameters.length) = some 1 := by decide +kernel
abbrev mX9_set : AM := (RX9, cX9_set, 4, (Option.some Jvm.ClassFile.FieldType.int), false)
theorem ydX9_set : yX9_set.cls ≠ "java/lang/invoke/MethodHandle" ∧ yX9_set.cls ≠ "java/lang/invoke/VarHandle" ∧ (parseMethodDescriptor yX9_set.desc).map (fun d => d.parameters.length) = some 2 := by decide +kernel
abbrev mX9_append : AM := (RX9, cX9_append, 2, (Option.some Jvm.ClassFile.FieldType.int), false)
theorem ydX9_append : yX9_append.cls ≠ "java/lang/invoke/MethodHandle" ∧ yX9_append.cls ≠ "java/lang/invoke/VarHandle" ∧ (parseMethodDescriptor yX9_append.desc).map (fun d => d.parameters.length) = some 1 := by decide +kernel
abbrev mX9_clearBuffer : AM := (RX9, cX9_clearBuffer, 2, (Option.some Jvm.ClassFile.FieldType.int), false)
theorem ydX9_clearBuffer : yX9_clearBuffer.cls ≠ "java/lang/invoke/MethodHandle" ∧ yX9_clearBuffer.cls ≠ "java/lang/invoke/VarHandle" ∧ (parseMethodDescriptor yX9_clearBuffer.desc).map (fun d => d.parameters.length) = some 0 := by decide +kernel
abbrev mX9_firstError : AM := (RX9, cX9_firstError, 1, (Option.some Jvm.ClassFile.FieldType.int), false)
theorem ydX9_firstError : yX9_firstError.cls ≠ "java/lang/invoke/MethodHandle" ∧ yX9_firstError.cls ≠ "java/lang/invoke/VarHandle" ∧ (parseMethodDescriptor yX9_firstError.desc).map (fun d => d.parameters.length) = some 0 := by decide +kernel
abbrev mX9_load : AM := (RX9, cX9_load, 2, (Option.some Jvm.ClassFile.FieldType.int), false)
theorem ydX9_load : yX9_load.cls ≠ "java/lang/invoke/MethodHandle" ∧ yX9_load.cls ≠ "java/lang/invoke/VarHandle" ∧ (parseMethodDescriptor yX9_load.desc).map (fun d => d.parameters.length) = some 0 := by decide +kernel
abbrev mX9_keep : AM := (RX9, cX9_keep, 3, (Option.some Jvm.ClassFile.FieldType.int), false)
theorem ydX9_keep : yX9_keep.cls ≠ "java/lang/invoke/MethodHandle" ∧ yX9_keep.cls ≠ "java/lang/invoke/VarHandle" ∧ (parseMethodDescriptor yX9_keep.desc).map (fun d => d.parameters.length) = some 1 := by decide +kernel
abbrev mX9_goBack : AM := (RX9, cX9_goBack, 3, (Option.some Jvm.ClassFile.FieldType.int), false)
theorem ydX9_goBack : yX9_goBack.cls ≠ "java/lang/invoke/MethodHandle" ∧ yX9_goBack.cls ≠ "java/lang/invoke/VarHandle" ∧ (parseMethodDescriptor yX9_goBack.desc).map (fun d => d.parameters.length) = some 1 := by decide +kernel
abbrev mX9_undo : AM := (RX9, cX9_undo, 1, (Option.some Jvm.ClassFile.FieldType.int), false)
theorem ydX9_undo : yX9_undo.cls ≠ "java/lang/invoke/MethodHandle" ∧ yX9_undo.cls ≠ "java/lang/invoke/VarHandle" ∧ (parseMethodDescriptor yX9_undo.desc).map (fun d => d.parameters.length) = some 0 := by decide +kernel
abbrev mX9_hole : AM := (RX9, cX9_hole, 3, (Option.some Jvm.ClassFile.FieldType.int), false)
theorem ydX9_hole : yX9_hole.cls ≠ "java/lang/invoke/MethodHandle" ∧ yX9_hole.cls ≠ "java/lang/invoke/VarHandle" ∧ (parseMethodDescriptor yX9_hole.desc).map (fun d => d.parameters.length) = some 2 := by decide +kernel
abbrev mX9_reading : AM := (RX9, cX9_reading, 3, (Option.some Jvm.ClassFile.FieldType.int), false)
theorem ydX9_reading : yX9_reading.cls ≠ "java/lang/invoke/MethodHandle" ∧ yX9_reading.cls ≠ "java/lang/invoke/VarHandle" ∧ (parseMethodDescriptor yX9_reading.desc).map (fun d => d.parameters.length) = some 2 := by decide +kernel
abbrev mX9_flow : AM := (RX9, cX9_flow, 2, (Option.some Jvm.ClassFile.FieldType.int), false)
theorem ydX9_flow : yX9_flow.cls ≠ "java/lang/invoke/MethodHandle" ∧ yX9_flow.cls ≠ "java/lang/invoke/VarHandle" ∧ (parseMethodDescriptor yX9_flow.desc).map (fun d => d.parameters.length) = some 1 := by decide +kernel
abbrev mX9_count : AM := (RX9, cX9_count, 2, (Option.some Jvm.ClassFile.FieldType.int), false)
theorem ydX9_count : yX9_count.cls ≠ "java/lang/invoke/MethodHandle" ∧ yX9_count.cls ≠ "java/lang/invoke/VarHandle" ∧ (parseMethodDescriptor yX9_count.desc).map (fun d => d.parameters.length) = some 1 := by decide +kernel
abbrev mX9_setting : AM := (RX9, cX9_setting, 2, (Option.some Jvm.ClassFile.FieldType.int), false)
theorem ydX9_setting : yX9_setting.cls ≠ "java/lang/invoke/MethodHandle" ∧ yX9_setting.cls ≠ "java/lang/invoke/VarHandle" ∧ (parseMethodDescriptor yX9_setting.desc).map (fun d => d.parameters.length) = some 1 := by decide +kernel
abbrev mX9_ifRight : AM := (RX9, cX9_ifRight, 2, (Option.some Jvm.ClassFile.FieldType.int), false)
theorem ydX9_ifRight : yX9_ifRight.cls ≠ "java/lang/invoke/MethodHandle" ∧ yX9_ifRight.cls ≠ "java/lang/invoke/VarHandle" ∧ (parseMethodDescriptor yX9_ifRight.desc).map (fun d => d.parameters.length) = some 1 := by decide +kernel
abbrev mX9_worst : AM := (RX9, cX9_worst, 1, (Option.some Jvm.ClassFile.FieldType.int), false)
theorem ydX9_worst : yX9_worst.cls ≠ "java/lang/invoke/MethodHandle" ∧ yX9_worst.cls ≠ "java/lang/invoke/VarHandle" ∧ (parseMethodDescriptor yX9_worst.desc).map (fun d => d.parameters.length) = some 0 := by decide +kernel
abbrev mX9_ifRake : AM := (RX9, cX9_ifRake, 2, (Option.some Jvm.ClassFile.FieldType.int), false)
theorem ydX9_ifRake : yX9_ifRake.cls ≠ "java/lang/invoke/MethodHandle" ∧ yX9_ifRake.cls ≠ "java/lang/invoke/VarHandle" ∧ (parseMethodDescriptor yX9_ifRake.desc).map (fun d => d.parameters.length) = some 1 := by decide +kernel
abbrev mX9_fineRake : AM := (RX9, cX9_fineRake, 2, (Option.some Jvm.ClassFile.FieldType.int), false)
theorem ydX9_fineRake : yX9_fineRake.cls ≠ "java/lang/invoke/MethodHandle" ∧ yX9_fineRake.cls ≠ "java/lang/invoke/VarHandle" ∧ (parseMethodDescriptor yX9_fineRake.desc).map (fun d => d.parameters.length) = some 1 := by decide +kernel
abbrev mX9_evenness : AM := (RX9, cX9_evenness, 1, (Option.some Jvm.ClassFile.FieldType.double), false)
theorem ydX9_evenness : yX9_evenness.cls ≠ "java/lang/invoke/MethodHandle" ∧ yX9_evenness.cls ≠ "java/lang/invoke/VarHandle" ∧ (parseMethodDescriptor yX9_evenness.desc).map (fun d => d.parameters.length) = some 0 := by decide +kernel
abbrev mX9_digest : AM := (RX9, cX9_digest, 4, (Option.some Jvm.ClassFile.FieldType.long), false)
theorem ydX9_digest : yX9_digest.cls ≠ "java/lang/invoke/MethodHandle" ∧ yX9_digest.cls ≠ "java/lang/invoke/VarHandle" ∧ (parseMethodDescriptor yX9_digest.desc).map (fun d => d.parameters.length) = some 0 := by decide +kernel
abbrev mX9_isNoRake : AM := (RX9, cX9_isNoRake, 1, (Option.some Jvm.ClassFile.FieldType.boolean), false)
theorem ydX9_isNoRake : yX9_isNoRake.cls ≠ "java/lang/invoke/MethodHandle" ∧ yX9_isNoRake.cls ≠ "java/lang/invoke/VarHandle" ∧ (parseMethodDescriptor yX9_isNoRake.desc).map (fun d => d.parameters.length) = some 1 := by decide +kernel
abbrev mX9_isNoSetting : AM := (RX9, cX9_isNoSetting, 1, (Option.some Jvm.ClassFile.FieldType.boolean), false)
theorem ydX9_isNoSetting : yX9_isNoSetting.cls ≠ "java/lang/invoke/MethodHandle" ∧ yX9_isNoSetting.cls ≠ "java/lang/invoke/VarHandle" ∧ (parseMethodDescriptor yX9_isNoSetting.desc).map (fun d => d.parameters.length) = some 1 := by decide +kernel
abbrev mX9_isNoSlot : AM := (RX9, cX9_isNoSlot, 1, (Option.some Jvm.ClassFile.FieldType.boolean), false)
theorem ydX9_isNoSlot : yX9_isNoSlot.cls ≠ "java/lang/invoke/MethodHandle" ∧ yX9_isNoSlot.cls ≠ "java/lang/invoke/VarHandle" ∧ (parseMethodDescriptor yX9_isNoSlot.desc).map (fun d => d.parameters.length) = some 1 := by decide +kernel
abbrev mX9_isNoHole : AM := (RX9, cX9_isNoHole, 2, (Option.some Jvm.ClassFile.FieldType.boolean), false)
theorem ydX9_isNoHole : yX9_isNoHole.cls ≠ "java/lang/invoke/MethodHandle" ∧ yX9_isNoHole.cls ≠ "java/lang/invoke/VarHandle" ∧ (parseMethodDescriptor yX9_isNoHole.desc).map (fun d => d.parameters.length) = some 1 := by decide +kernel
abbrev mX9_isNoReading : AM := (RX9, cX9_isNoReading, 2, (Option.some Jvm.ClassFile.FieldType.boolean), false)
theorem ydX9_isNoReading : yX9_isNoReading.cls ≠ "java/lang/invoke/MethodHandle" ∧ yX9_isNoReading.cls ≠ "java/lang/invoke/VarHandle" ∧ (parseMethodDescriptor yX9_isNoReading.desc).map (fun d => d.parameters.length) = some 1 := by decide +kernel
abbrev mX9_slotOf : AM := (RX9, cX9_slotOf, 2, (Option.some (Jvm.ClassFile.FieldType.object "DuctRake$Slot")), false)
theorem ydX9_slotOf : yX9_slotOf.cls ≠ "java/lang/invoke/MethodHandle" ∧ yX9_slotOf.cls ≠ "java/lang/invoke/VarHandle" ∧ (parseMethodDescriptor yX9_slotOf.desc).map (fun d => d.parameters.length) = some 1 := by decide +kernel
abbrev mX9_holeValue : AM := (RX9, cX9_holeValue, 4, (Option.some Jvm.ClassFile.FieldType.int), false)
theorem ydX9_holeValue : yX9_holeValue.cls ≠ "java/lang/invoke/MethodHandle" ∧ yX9_holeValue.cls ≠ "java/lang/invoke/VarHandle" ∧ (parseMethodDescriptor yX9_holeValue.desc).map (fun d => d.parameters.length) = some 3 := by decide +kernel
abbrev mX9_readingValue : AM := (RX9, cX9_readingValue, 4, (Option.some Jvm.ClassFile.FieldType.int), false)
theorem ydX9_readingValue : yX9_readingValue.cls ≠ "java/lang/invoke/MethodHandle" ∧ yX9_readingValue.cls ≠ "java/lang/invoke/VarHandle" ∧ (parseMethodDescriptor yX9_readingValue.desc).map (fun d => d.parameters.length) = some 2 := by decide +kernel
abbrev mX9_flowValue : AM := (RX9, cX9_flowValue, 4, (Option.some Jvm.ClassFile.FieldType.int), false)
theorem ydX9_flowValue : yX9_flowValue.cls ≠ "java/lang/invoke/MethodHandle" ∧ yX9_flowValue.cls ≠ "java/lang/invoke/VarHandle" ∧ (parseMethodDescriptor yX9_flowValue.desc).map (fun d => d.parameters.length) = some 2 := by decide +kernel
abbrev mX9_countValue : AM := (RX9, cX9_countValue, 3, (Option.some Jvm.ClassFile.FieldType.int), false)
theorem ydX9_countValue : yX9_countValue.cls ≠ "java/lang/invoke/MethodHandle" ∧ yX9_countValue.cls ≠ "java/lang/invoke/VarHandle" ∧ (parseMethodDescriptor yX9_countValue.desc).map (fun d => d.parameters.length) = some 2 := by decide +kernel
abbrev mX9_wholeIfRight : AM := (RX9, cX9_wholeIfRight, 2, (Option.some Jvm.ClassFile.FieldType.int), false)
theorem ydX9_wholeIfRight : yX9_wholeIfRight.cls ≠ "java/lang/invoke/MethodHandle" ∧ yX9_wholeIfRight.cls ≠ "java/lang/invoke/VarHandle" ∧ (parseMethodDescriptor yX9_wholeIfRight.desc).map (fun d => d.parameters.length) = some 1 := by decide +kernel
abbrev mX9_worstHole : AM := (RX9, cX9_worstHole, 8, (Option.some Jvm.ClassFile.FieldType.int), false)
theorem ydX9_worstHole : yX9_worstHole.cls ≠ "java/lang/invoke/MethodHandle" ∧ yX9_worstHole.cls ≠ "java/lang/invoke/VarHandle" ∧ (parseMethodDescriptor yX9_worstHole.desc).map (fun d => d.parameters.length) = some 1 := by decide +kernel
abbrev mX9_fewestHoles : AM := (RX9, cX9_fewestHoles, 4, (Option.some Jvm.ClassFile.FieldType.int), false)
theorem ydX9_fewestHoles : yX9_fewestHoles.cls ≠ "java/lang/invoke/MethodHandle" ∧ yX9_fewestHoles.cls ≠ "java/lang/invoke/VarHandle" ∧ (parseMethodDescriptor yX9_fewestHoles.desc).map (fun d => d.parameters.length) = some 1 := by decide +kernel
abbrev mX9_mixed : AM := (RX9, cX9_mixed, 4, (Option.some Jvm.ClassFile.FieldType.long), false)
theorem ydX9_mixed : yX9_mixed.cls ≠ "java/lang/invoke/MethodHandle" ∧ yX9_mixed.cls ≠ "java/lang/invoke/VarHandle" ∧ (parseMethodDescriptor yX9_mixed.desc).map (fun d => d.parameters.length) = some 2 := by decide +kernel
abbrev mX9_mixedWithHoles : AM := (RX9, cX9_mixedWithHoles, 8, (Option.some Jvm.ClassFile.FieldType.long), false)
theorem ydX9_mixedWithHoles : yX9_mixedWithHoles.cls ≠ "java/lang/invoke/MethodHandle" ∧ yX9_mixedWithHoles.cls ≠ "java/lang/invoke/VarHandle" ∧ (parseMethodDescriptor yX9_mixedWithHoles.desc).map (fun d => d.parameters.length) = some 2 := by decide +kernel
abbrev mX9_mixedWithReadings : AM := (RX9, cX9_mixedWithReadings, 7, (Option.some Jvm.ClassFile.FieldType.long), false)
theorem ydX9_mixedWithReadings : yX9_mixedWithReadings.cls ≠ "java/lang/invoke/MethodHandle" ∧ yX9_mixedWithReadings.cls ≠ "java/lang/invoke/VarHandle" ∧ (parseMethodDescriptor yX9_mixedWithReadings.desc).map (fun d => d.parameters.length) = some 1 := by decide +kernel
abbrev mX9_mixedWithBuffer : AM := (RX9, cX9_mixedWithBuffer, 6, (Option.some Jvm.ClassFile.FieldType.long), false)
theorem ydX9_mixedWithBuffer : yX9_mixedWithBuffer.cls ≠ "java/lang/invoke/MethodHandle" ∧ yX9_mixedWithBuffer.cls ≠ "java/lang/invoke/VarHandle" ∧ (parseMethodDescriptor yX9_mixedWithBuffer.desc).map (fun d => d.parameters.length) = some 1 := by decide +kernel
abbrev mX10_init : AM := (RX10, cX10_init, 1, (Option.none : Option Jvm.ClassFile.FieldType), true)
theorem ydX10_init : yX10_init.cls ≠ "java/lang/invoke/MethodHandle" ∧ yX10_init.cls ≠ "java/lang/invoke/VarHandle" ∧ (parseMethodDescriptor yX10_init.desc).map (fun d => d.parameters.length) = some 0 := by decide +kernel
abbrev mX10_thrown : AM := (RX10, cX10_thrown, 1, (Option.some Jvm.ClassFile.FieldType.int), false)
theorem ydX10_thrown : yX10_thrown.cls ≠ "java/lang/invoke/MethodHandle" ∧ yX10_thrown.cls ≠ "java/lang/invoke/VarHandle" ∧ (parseMethodDescriptor yX10_thrown.desc).map (fun d => d.parameters.length) = some 0 := by decide +kernel
abbrev mX10_in : AM := (RX10, cX10_in, 3, (Option.some Jvm.ClassFile.FieldType.boolean), false)
theorem ydX10_in : yX10_in.cls ≠ "java/lang/invoke/MethodHandle" ∧ yX10_in.cls ≠ "java/lang/invoke/VarHandle" ∧ (parseMethodDescriptor yX10_in.desc).map (fun d => d.parameters.length) = some 3 := by decide +kernel
abbrev mX10_fails : AM := (RX10, cX10_fails, 2, (Option.some Jvm.ClassFile.FieldType.int), false)
theorem ydX10_fails : yX10_fails.cls ≠ "java/lang/invoke/MethodHandle" ∧ yX10_fails.cls ≠ "java/lang/invoke/VarHandle" ∧ (parseMethodDescriptor yX10_fails.desc).map (fun d => d.parameters.length) = some 1 := by decide +kernel
abbrev mX10_of : AM := (RX10, cX10_of, 3, (Option.some Jvm.ClassFile.FieldType.int), false)
theorem ydX10_of : yX10_of.cls ≠ "java/lang/invoke/MethodHandle" ∧ yX10_of.cls ≠ "java/lang/invoke/VarHandle" ∧ (parseMethodDescriptor yX10_of.desc).map (fun d => d.parameters.length) = some 2 := by decide +kernel
abbrev mX10_lay : AM := (RX10, cX10_lay, 4, (Option.none : Option Jvm.ClassFile.FieldType), false)
theorem ydX10_lay : yX10_lay.cls ≠ "java/lang/invoke/MethodHandle" ∧ yX10_lay.cls ≠ "java/lang/invoke/VarHandle" ∧ (parseMethodDescriptor yX10_lay.desc).map (fun d => d.parameters.length) = some 3 := by decide +kernel
abbrev mX10_ofReading : AM := (RX10, cX10_ofReading, 3, (Option.some Jvm.ClassFile.FieldType.int), false)
theorem ydX10_ofReading : yX10_ofReading.cls ≠ "java/lang/invoke/MethodHandle" ∧ yX10_ofReading.cls ≠ "java/lang/invoke/VarHandle" ∧ (parseMethodDescriptor yX10_ofReading.desc).map (fun d => d.parameters.length) = some 2 := by decide +kernel
abbrev mX10_isHole : AM := (RX10, cX10_isHole, 2, (Option.some Jvm.ClassFile.FieldType.boolean), false)
theorem ydX10_isHole : yX10_isHole.cls ≠ "java/lang/invoke/MethodHandle" ∧ yX10_isHole.cls ≠ "java/lang/invoke/VarHandle" ∧ (parseMethodDescriptor yX10_isHole.desc).map (fun d => d.parameters.length) = some 1 := by decide +kernel
abbrev mX10_clearsHoles : AM := (RX10, cX10_clearsHoles, 2, (Option.none : Option Jvm.ClassFile.FieldType), false)
theorem ydX10_clearsHoles : yX10_clearsHoles.cls ≠ "java/lang/invoke/MethodHandle" ∧ yX10_clearsHoles.cls ≠ "java/lang/invoke/VarHandle" ∧ (parseMethodDescriptor yX10_clearsHoles.desc).map (fun d => d.parameters.length) = some 0 := by decide +kernel
abbrev mX10_saves : AM := (RX10, cX10_saves, 2, (Option.none : Option Jvm.ClassFile.FieldType), false)
theorem ydX10_saves : yX10_saves.cls ≠ "java/lang/invoke/MethodHandle" ∧ yX10_saves.cls ≠ "java/lang/invoke/VarHandle" ∧ (parseMethodDescriptor yX10_saves.desc).map (fun d => d.parameters.length) = some 0 := by decide +kernel
abbrev mX10_root : AM := (RX10, cX10_root, 5, (Option.some Jvm.ClassFile.FieldType.int), false)
theorem ydX10_root : yX10_root.cls ≠ "java/lang/invoke/MethodHandle" ∧ yX10_root.cls ≠ "java/lang/invoke/VarHandle" ∧ (parseMethodDescriptor yX10_root.desc).map (fun d => d.parameters.length) = some 1 := by decide +kernel
abbrev mX10_distance : AM := (RX10, cX10_distance, 3, (Option.some Jvm.ClassFile.FieldType.int), false)
theorem ydX10_distance : yX10_distance.cls ≠ "java/lang/invoke/MethodHandle" ∧ yX10_distance.cls ≠ "java/lang/invoke/VarHandle" ∧ (parseMethodDescriptor yX10_distance.desc).map (fun d => d.parameters.length) = some 2 := by decide +kernel
abbrev mX10_trueSpeed : AM := (RX10, cX10_trueSpeed, 4, (Option.some Jvm.ClassFile.FieldType.int), false)
theorem ydX10_trueSpeed : yX10_trueSpeed.cls ≠ "java/lang/invoke/MethodHandle" ∧ yX10_trueSpeed.cls ≠ "java/lang/invoke/VarHandle" ∧ (parseMethodDescriptor yX10_trueSpeed.desc).map (fun d => d.parameters.length) = some 2 := by decide +kernel
abbrev mX10_trueHead : AM := (RX10, cX10_trueHead, 3, (Option.some Jvm.ClassFile.FieldType.int), false)
theorem ydX10_trueHead : yX10_trueHead.cls ≠ "java/lang/invoke/MethodHandle" ∧ yX10_trueHead.cls ≠ "java/lang/invoke/VarHandle" ∧ (parseMethodDescriptor yX10_trueHead.desc).map (fun d => d.parameters.length) = some 1 := by decide +kernel
abbrev mX10_felt : AM := (RX10, cX10_felt, 3, (Option.some Jvm.ClassFile.FieldType.int), false)
theorem ydX10_felt : yX10_felt.cls ≠ "java/lang/invoke/MethodHandle" ∧ yX10_felt.cls ≠ "java/lang/invoke/VarHandle" ∧ (parseMethodDescriptor yX10_felt.desc).map (fun d => d.parameters.length) = some 1 := by decide +kernel
abbrev mX10_ringFlow : AM := (RX10, cX10_ringFlow, 3, (Option.some Jvm.ClassFile.FieldType.int), false)
theorem ydX10_ringFlow : yX10_ringFlow.cls ≠ "java/lang/invoke/MethodHandle" ∧ yX10_ringFlow.cls ≠ "java/lang/invoke/VarHandle" ∧ (parseMethodDescriptor yX10_ringFlow.desc).map (fun d => d.parameters.length) = some 2 := by decide +kernel
abbrev mX10_trueFlow : AM := (RX10, cX10_trueFlow, 4, (Option.some Jvm.ClassFile.FieldType.int), false)
theorem ydX10_trueFlow : yX10_trueFlow.cls ≠ "java/lang/invoke/MethodHandle" ∧ yX10_trueFlow.cls ≠ "java/lang/invoke/VarHandle" ∧ (parseMethodDescriptor yX10_trueFlow.desc).map (fun d => d.parameters.length) = some 1 := by decide +kernel
abbrev mX10_counts : AM := (RX10, cX10_counts, 2, (Option.some Jvm.ClassFile.FieldType.boolean), false)
theorem ydX10_counts : yX10_counts.cls ≠ "java/lang/invoke/MethodHandle" ∧ yX10_counts.cls ≠ "java/lang/invoke/VarHandle" ∧ (parseMethodDescriptor yX10_counts.desc).map (fun d => d.parameters.length) = some 1 := by decide +kernel
abbrev mX10_laysMeans : AM := (RX10, cX10_laysMeans, 3, (Option.none : Option Jvm.ClassFile.FieldType), false)
theorem ydX10_laysMeans : yX10_laysMeans.cls ≠ "java/lang/invoke/MethodHandle" ∧ yX10_laysMeans.cls ≠ "java/lang/invoke/VarHandle" ∧ (parseMethodDescriptor yX10_laysMeans.desc).map (fun d => d.parameters.length) = some 0 := by decide +kernel
abbrev mX10_reason : AM := (RX10, cX10_reason, 4, (Option.some Jvm.ClassFile.FieldType.int), false)
theorem ydX10_reason : yX10_reason.cls ≠ "java/lang/invoke/MethodHandle" ∧ yX10_reason.cls ≠ "java/lang/invoke/VarHandle" ∧ (parseMethodDescriptor yX10_reason.desc).map (fun d => d.parameters.length) = some 3 := by decide +kernel
abbrev mX10_nearest : AM := (RX10, cX10_nearest, 4, (Option.some Jvm.ClassFile.FieldType.int), false)
theorem ydX10_nearest : yX10_nearest.cls ≠ "java/lang/invoke/MethodHandle" ∧ yX10_nearest.cls ≠ "java/lang/invoke/VarHandle" ∧ (parseMethodDescriptor yX10_nearest.desc).map (fun d => d.parameters.length) = some 2 := by decide +kernel
abbrev mX10_mended : AM := (RX10, cX10_mended, 4, (Option.some Jvm.ClassFile.FieldType.int), false)
theorem ydX10_mended : yX10_mended.cls ≠ "java/lang/invoke/MethodHandle" ∧ yX10_mended.cls ≠ "java/lang/invoke/VarHandle" ∧ (parseMethodDescriptor yX10_mended.desc).map (fun d => d.parameters.length) = some 1 := by decide +kernel
abbrev mX10_laysTold : AM := (RX10, cX10_laysTold, 4, (Option.none : Option Jvm.ClassFile.FieldType), false)
theorem ydX10_laysTold : yX10_laysTold.cls ≠ "java/lang/invoke/MethodHandle" ∧ yX10_laysTold.cls ≠ "java/lang/invoke/VarHandle" ∧ (parseMethodDescriptor yX10_laysTold.desc).map (fun d => d.parameters.length) = some 1 := by decide +kernel
abbrev mX10_laysAll : AM := (RX10, cX10_laysAll, 1, (Option.none : Option Jvm.ClassFile.FieldType), false)
theorem ydX10_laysAll : yX10_laysAll.cls ≠ "java/lang/invoke/MethodHandle" ∧ yX10_laysAll.cls ≠ "java/lang/invoke/VarHandle" ∧ (parseMethodDescriptor yX10_laysAll.desc).map (fun d => d.parameters.length) = some 0 := by decide +kernel
abbrev mX10_flowOf : AM := (RX10, cX10_flowOf, 5, (Option.some Jvm.ClassFile.FieldType.int), false)
theorem ydX10_flowOf : yX10_flowOf.cls ≠ "java/lang/invoke/MethodHandle" ∧ yX10_flowOf.cls ≠ "java/lang/invoke/VarHandle" ∧ (parseMethodDescriptor yX10_flowOf.desc).map (fun d => d.parameters.length) = some 2 := by decide +kernel
abbrev mX10_holeWork : AM := (RX10, cX10_holeWork, 3, (Option.some Jvm.ClassFile.FieldType.int), false)
theorem ydX10_holeWork : yX10_holeWork.cls ≠ "java/lang/invoke/MethodHandle" ∧ yX10_holeWork.cls ≠ "java/lang/invoke/VarHandle" ∧ (parseMethodDescriptor yX10_holeWork.desc).map (fun d => d.parameters.length) = some 0 := by decide +kernel
abbrev mX10_rake : AM := (RX10, cX10_rake, 3, (Option.some Jvm.ClassFile.FieldType.int), false)
theorem ydX10_rake : yX10_rake.cls ≠ "java/lang/invoke/MethodHandle" ∧ yX10_rake.cls ≠ "java/lang/invoke/VarHandle" ∧ (parseMethodDescriptor yX10_rake.desc).map (fun d => d.parameters.length) = some 1 := by decide +kernel
abbrev mX10_radius : AM := (RX10, cX10_radius, 3, (Option.some Jvm.ClassFile.FieldType.int), false)
theorem ydX10_radius : yX10_radius.cls ≠ "java/lang/invoke/MethodHandle" ∧ yX10_radius.cls ≠ "java/lang/invoke/VarHandle" ∧ (parseMethodDescriptor yX10_radius.desc).map (fun d => d.parameters.length) = some 1 := by decide +kernel
abbrev mX10_changes : AM := (RX10, cX10_changes, 5, (Option.some Jvm.ClassFile.FieldType.int), false)
theorem ydX10_changes : yX10_changes.cls ≠ "java/lang/invoke/MethodHandle" ∧ yX10_changes.cls ≠ "java/lang/invoke/VarHandle" ∧ (parseMethodDescriptor yX10_changes.desc).map (fun d => d.parameters.length) = some 3 := by decide +kernel
abbrev mX10_block : AM := (RX10, cX10_block, 3, (Option.some Jvm.ClassFile.FieldType.int), false)
theorem ydX10_block : yX10_block.cls ≠ "java/lang/invoke/MethodHandle" ∧ yX10_block.cls ≠ "java/lang/invoke/VarHandle" ∧ (parseMethodDescriptor yX10_block.desc).map (fun d => d.parameters.length) = some 2 := by decide +kernel
abbrev mX10_leak : AM := (RX10, cX10_leak, 3, (Option.some Jvm.ClassFile.FieldType.int), false)
theorem ydX10_leak : yX10_leak.cls ≠ "java/lang/invoke/MethodHandle" ∧ yX10_leak.cls ≠ "java/lang/invoke/VarHandle" ∧ (parseMethodDescriptor yX10_leak.desc).map (fun d => d.parameters.length) = some 2 := by decide +kernel
abbrev mX10_clean : AM := (RX10, cX10_clean, 3, (Option.some Jvm.ClassFile.FieldType.int), false)
theorem ydX10_clean : yX10_clean.cls ≠ "java/lang/invoke/MethodHandle" ∧ yX10_clean.cls ≠ "java/lang/invoke/VarHandle" ∧ (parseMethodDescriptor yX10_clean.desc).map (fun d => d.parameters.length) = some 1 := by decide +kernel
abbrev mX10_test : AM := (RX10, cX10_test, 3, (Option.some Jvm.ClassFile.FieldType.int), false)
theorem ydX10_test : yX10_test.cls ≠ "java/lang/invoke/MethodHandle" ∧ yX10_test.cls ≠ "java/lang/invoke/VarHandle" ∧ (parseMethodDescriptor yX10_test.desc).map (fun d => d.parameters.length) = some 1 := by decide +kernel
abbrev mX10_drops : AM := (RX10, cX10_drops, 3, (Option.none : Option Jvm.ClassFile.FieldType), false)
theorem ydX10_drops : yX10_drops.cls ≠ "java/lang/invoke/MethodHandle" ∧ yX10_drops.cls ≠ "java/lang/invoke/VarHandle" ∧ (parseMethodDescriptor yX10_drops.desc).map (fun d => d.parameters.length) = some 1 := by decide +kernel
abbrev mX10_comes : AM := (RX10, cX10_comes, 3, (Option.some Jvm.ClassFile.FieldType.int), false)
theorem ydX10_comes : yX10_comes.cls ≠ "java/lang/invoke/MethodHandle" ∧ yX10_comes.cls ≠ "java/lang/invoke/VarHandle" ∧ (parseMethodDescriptor yX10_comes.desc).map (fun d => d.parameters.length) = some 1 := by decide +kernel
abbrev mX10_read : AM := (RX10, cX10_read, 3, (Option.some Jvm.ClassFile.FieldType.int), false)
theorem ydX10_read : yX10_read.cls ≠ "java/lang/invoke/MethodHandle" ∧ yX10_read.cls ≠ "java/lang/invoke/VarHandle" ∧ (parseMethodDescriptor yX10_read.desc).map (fun d => d.parameters.length) = some 0 := by decide +kernel
abbrev mX10_drop : AM := (RX10, cX10_drop, 2, (Option.some Jvm.ClassFile.FieldType.int), false)
theorem ydX10_drop : yX10_drop.cls ≠ "java/lang/invoke/MethodHandle" ∧ yX10_drop.cls ≠ "java/lang/invoke/VarHandle" ∧ (parseMethodDescriptor yX10_drop.desc).map (fun d => d.parameters.length) = some 1 := by decide +kernel
abbrev mX10_isSetting : AM := (RX10, cX10_isSetting, 2, (Option.some Jvm.ClassFile.FieldType.boolean), false)
theorem ydX10_isSetting : yX10_isSetting.cls ≠ "java/lang/invoke/MethodHandle" ∧ yX10_isSetting.cls ≠ "java/lang/invoke/VarHandle" ∧ (parseMethodDescriptor yX10_isSetting.desc).map (fun d => d.parameters.length) = some 2 := by decide +kernel
abbrev mX10_set : AM := (RX10, cX10_set, 4, (Option.some Jvm.ClassFile.FieldType.int), false)
theorem ydX10_set : yX10_set.cls ≠ "java/lang/invoke/MethodHandle" ∧ yX10_set.cls ≠ "java/lang/invoke/VarHandle" ∧ (parseMethodDescriptor yX10_set.desc).map (fun d => d.parameters.length) = some 2 := by decide +kernel
abbrev mX10_append : AM := (RX10, cX10_append, 2, (Option.some Jvm.ClassFile.FieldType.int), false)
theorem ydX10_append : yX10_append.cls ≠ "java/lang/invoke/MethodHandle" ∧ yX10_append.cls ≠ "java/lang/invoke/VarHandle" ∧ (parseMethodDescriptor yX10_append.desc).map (fun d => d.parameters.length) = some 1 := by decide +kernel
abbrev mX10_clearBuffer : AM := (RX10, cX10_clearBuffer, 2, (Option.some Jvm.ClassFile.FieldType.int), false)
theorem ydX10_clearBuffer : yX10_clearBuffer.cls ≠ "java/lang/invoke/MethodHandle" ∧ yX10_clearBuffer.cls ≠ "java/lang/invoke/VarHandle" ∧ (parseMethodDescriptor yX10_clearBuffer.desc).map (fun d => d.parameters.length) = some 0 := by decide +kernel
abbrev mX10_sign : AM := (RX10, cX10_sign, 1, (Option.some Jvm.ClassFile.FieldType.int), false)
theorem ydX10_sign : yX10_sign.cls ≠ "java/lang/invoke/MethodHandle" ∧ yX10_sign.cls ≠ "java/lang/invoke/VarHandle" ∧ (parseMethodDescriptor yX10_sign.desc).map (fun d => d.parameters.length) = some 0 := by decide +kernel
abbrev mX10_readsHead : AM := (RX10, cX10_readsHead, 2, (Option.none : Option Jvm.ClassFile.FieldType), false)
theorem ydX10_readsHead : yX10_readsHead.cls ≠ "java/lang/invoke/MethodHandle" ∧ yX10_readsHead.cls ≠ "java/lang/invoke/VarHandle" ∧ (parseMethodDescriptor yX10_readsHead.desc).map (fun d => d.parameters.length) = some 0 := by decide +kernel
abbrev mX10_readsAll : AM := (RX10, cX10_readsAll, 1, (Option.none : Option Jvm.ClassFile.FieldType), false)
theorem ydX10_readsAll : yX10_readsAll.cls ≠ "java/lang/invoke/MethodHandle" ∧ yX10_readsAll.cls ≠ "java/lang/invoke/VarHandle" ∧ (parseMethodDescriptor yX10_readsAll.desc).map (fun d => d.parameters.length) = some 0 := by decide +kernel
abbrev mX10_firstError : AM := (RX10, cX10_firstError, 1, (Option.some Jvm.ClassFile.FieldType.int), false)
theorem ydX10_firstError : yX10_firstError.cls ≠ "java/lang/invoke/MethodHandle" ∧ yX10_firstError.cls ≠ "java/lang/invoke/VarHandle" ∧ (parseMethodDescriptor yX10_firstError.desc).map (fun d => d.parameters.length) = some 0 := by decide +kernel
abbrev mX10_load : AM := (RX10, cX10_load, 3, (Option.some Jvm.ClassFile.FieldType.int), false)
theorem ydX10_load : yX10_load.cls ≠ "java/lang/invoke/MethodHandle" ∧ yX10_load.cls ≠ "java/lang/invoke/VarHandle" ∧ (parseMethodDescriptor yX10_load.desc).map (fun d => d.parameters.length) = some 0 := by decide +kernel
abbrev mX10_keep : AM := (RX10, cX10_keep, 3, (Option.some Jvm.ClassFile.FieldType.int), false)
theorem ydX10_keep : yX10_keep.cls ≠ "java/lang/invoke/MethodHandle" ∧ yX10_keep.cls ≠ "java/lang/invoke/VarHandle" ∧ (parseMethodDescriptor yX10_keep.desc).map (fun d => d.parameters.length) = some 1 := by decide +kernel
abbrev mX10_goBack : AM := (RX10, cX10_goBack, 3, (Option.some Jvm.ClassFile.FieldType.int), false)
theorem ydX10_goBack : yX10_goBack.cls ≠ "java/lang/invoke/MethodHandle" ∧ yX10_goBack.cls ≠ "java/lang/invoke/VarHandle" ∧ (parseMethodDescriptor yX10_goBack.desc).map (fun d => d.parameters.length) = some 1 := by decide +kernel
abbrev mX10_undo : AM := (RX10, cX10_undo, 2, (Option.some Jvm.ClassFile.FieldType.int), false)
theorem ydX10_undo : yX10_undo.cls ≠ "java/lang/invoke/MethodHandle" ∧ yX10_undo.cls ≠ "java/lang/invoke/VarHandle" ∧ (parseMethodDescriptor yX10_undo.desc).map (fun d => d.parameters.length) = some 0 := by decide +kernel
abbrev mX10_tellsHole : AM := (RX10, cX10_tellsHole, 3, (Option.some Jvm.ClassFile.FieldType.int), false)
theorem ydX10_tellsHole : yX10_tellsHole.cls ≠ "java/lang/invoke/MethodHandle" ∧ yX10_tellsHole.cls ≠ "java/lang/invoke/VarHandle" ∧ (parseMethodDescriptor yX10_tellsHole.desc).map (fun d => d.parameters.length) = some 2 := by decide +kernel
abbrev mX10_hole : AM := (RX10, cX10_hole, 3, (Option.some Jvm.ClassFile.FieldType.int), false)
theorem ydX10_hole : yX10_hole.cls ≠ "java/lang/invoke/MethodHandle" ∧ yX10_hole.cls ≠ "java/lang/invoke/VarHandle" ∧ (parseMethodDescriptor yX10_hole.desc).map (fun d => d.parameters.length) = some 2 := by decide +kernel
abbrev mX10_tellsReading : AM := (RX10, cX10_tellsReading, 3, (Option.some Jvm.ClassFile.FieldType.int), false)
theorem ydX10_tellsReading : yX10_tellsReading.cls ≠ "java/lang/invoke/MethodHandle" ∧ yX10_tellsReading.cls ≠ "java/lang/invoke/VarHandle" ∧ (parseMethodDescriptor yX10_tellsReading.desc).map (fun d => d.parameters.length) = some 2 := by decide +kernel
abbrev mX10_reading : AM := (RX10, cX10_reading, 3, (Option.some Jvm.ClassFile.FieldType.int), false)
theorem ydX10_reading : yX10_reading.cls ≠ "java/lang/invoke/MethodHandle" ∧ yX10_reading.cls ≠ "java/lang/invoke/VarHandle" ∧ (parseMethodDescriptor yX10_reading.desc).map (fun d => d.parameters.length) = some 2 := by decide +kernel
abbrev mX10_tellsFlow : AM := (RX10, cX10_tellsFlow, 2, (Option.some Jvm.ClassFile.FieldType.int), false)
theorem ydX10_tellsFlow : yX10_tellsFlow.cls ≠ "java/lang/invoke/MethodHandle" ∧ yX10_tellsFlow.cls ≠ "java/lang/invoke/VarHandle" ∧ (parseMethodDescriptor yX10_tellsFlow.desc).map (fun d => d.parameters.length) = some 1 := by decide +kernel
abbrev mX10_flow : AM := (RX10, cX10_flow, 2, (Option.some Jvm.ClassFile.FieldType.int), false)
theorem ydX10_flow : yX10_flow.cls ≠ "java/lang/invoke/MethodHandle" ∧ yX10_flow.cls ≠ "java/lang/invoke/VarHandle" ∧ (parseMethodDescriptor yX10_flow.desc).map (fun d => d.parameters.length) = some 1 := by decide +kernel
abbrev mX10_holesFor : AM := (RX10, cX10_holesFor, 4, (Option.some Jvm.ClassFile.FieldType.int), false)
theorem ydX10_holesFor : yX10_holesFor.cls ≠ "java/lang/invoke/MethodHandle" ∧ yX10_holesFor.cls ≠ "java/lang/invoke/VarHandle" ∧ (parseMethodDescriptor yX10_holesFor.desc).map (fun d => d.parameters.length) = some 1 := by decide +kernel
abbrev mX10_tellsCount : AM := (RX10, cX10_tellsCount, 2, (Option.some Jvm.ClassFile.FieldType.int), false)
theorem ydX10_tellsCount : yX10_tellsCount.cls ≠ "java/lang/invoke/MethodHandle" ∧ yX10_tellsCount.cls ≠ "java/lang/invoke/VarHandle" ∧ (parseMethodDescriptor yX10_tellsCount.desc).map (fun d => d.parameters.length) = some 1 := by decide +kernel
abbrev mX10_count : AM := (RX10, cX10_count, 2, (Option.some Jvm.ClassFile.FieldType.int), false)
theorem ydX10_count : yX10_count.cls ≠ "java/lang/invoke/MethodHandle" ∧ yX10_count.cls ≠ "java/lang/invoke/VarHandle" ∧ (parseMethodDescriptor yX10_count.desc).map (fun d => d.parameters.length) = some 1 := by decide +kernel
abbrev mX10_setting : AM := (RX10, cX10_setting, 2, (Option.some Jvm.ClassFile.FieldType.int), false)
theorem ydX10_setting : yX10_setting.cls ≠ "java/lang/invoke/MethodHandle" ∧ yX10_setting.cls ≠ "java/lang/invoke/VarHandle" ∧ (parseMethodDescriptor yX10_setting.desc).map (fun d => d.parameters.length) = some 1 := by decide +kernel
abbrev mX10_wholeIfRight : AM := (RX10, cX10_wholeIfRight, 2, (Option.some Jvm.ClassFile.FieldType.int), false)
theorem ydX10_wholeIfRight : yX10_wholeIfRight.cls ≠ "java/lang/invoke/MethodHandle" ∧ yX10_wholeIfRight.cls ≠ "java/lang/invoke/VarHandle" ∧ (parseMethodDescriptor yX10_wholeIfRight.desc).map (fun d => d.parameters.length) = some 1 := by decide +kernel
abbrev mX10_ifRight : AM := (RX10, cX10_ifRight, 2, (Option.some Jvm.ClassFile.FieldType.int), false)
theorem ydX10_ifRight : yX10_ifRight.cls ≠ "java/lang/invoke/MethodHandle" ∧ yX10_ifRight.cls ≠ "java/lang/invoke/VarHandle" ∧ (parseMethodDescriptor yX10_ifRight.desc).map (fun d => d.parameters.length) = some 1 := by decide +kernel
abbrev mX10_worstOne : AM := (RX10, cX10_worstOne, 8, (Option.some Jvm.ClassFile.FieldType.int), false)
theorem ydX10_worstOne : yX10_worstOne.cls ≠ "java/lang/invoke/MethodHandle" ∧ yX10_worstOne.cls ≠ "java/lang/invoke/VarHandle" ∧ (parseMethodDescriptor yX10_worstOne.desc).map (fun d => d.parameters.length) = some 0 := by decide +kernel
abbrev mX10_worst : AM := (RX10, cX10_worst, 1, (Option.some Jvm.ClassFile.FieldType.int), false)
theorem ydX10_worst : yX10_worst.cls ≠ "java/lang/invoke/MethodHandle" ∧ yX10_worst.cls ≠ "java/lang/invoke/VarHandle" ∧ (parseMethodDescriptor yX10_worst.desc).map (fun d => d.parameters.length) = some 0 := by decide +kernel
abbrev mX10_ifRake : AM := (RX10, cX10_ifRake, 2, (Option.some Jvm.ClassFile.FieldType.int), false)
theorem ydX10_ifRake : yX10_ifRake.cls ≠ "java/lang/invoke/MethodHandle" ∧ yX10_ifRake.cls ≠ "java/lang/invoke/VarHandle" ∧ (parseMethodDescriptor yX10_ifRake.desc).map (fun d => d.parameters.length) = some 1 := by decide +kernel
abbrev mX10_fine : AM := (RX10, cX10_fine, 4, (Option.some Jvm.ClassFile.FieldType.int), false)
theorem ydX10_fine : yX10_fine.cls ≠ "java/lang/invoke/MethodHandle" ∧ yX10_fine.cls ≠ "java/lang/invoke/VarHandle" ∧ (parseMethodDescriptor yX10_fine.desc).map (fun d => d.parameters.length) = some 1 := by decide +kernel
abbrev mX10_fineRake : AM := (RX10, cX10_fineRake, 2, (Option.some Jvm.ClassFile.FieldType.int), false)
theorem ydX10_fineRake : yX10_fineRake.cls ≠ "java/lang/invoke/MethodHandle" ∧ yX10_fineRake.cls ≠ "java/lang/invoke/VarHandle" ∧ (parseMethodDescriptor yX10_fineRake.desc).map (fun d => d.parameters.length) = some 1 := by decide +kernel
abbrev mX10_even : AM := (RX10, cX10_even, 4, (Option.some Jvm.ClassFile.FieldType.double), false)
theorem ydX10_even : yX10_even.cls ≠ "java/lang/invoke/MethodHandle" ∧ yX10_even.cls ≠ "java/lang/invoke/VarHandle" ∧ (parseMethodDescriptor yX10_even.desc).map (fun d => d.parameters.length) = some 0 := by decide +kernel
abbrev mX10_evenness : AM := (RX10, cX10_evenness, 1, (Option.some Jvm.ClassFile.FieldType.double), false)
theorem ydX10_evenness : yX10_evenness.cls ≠ "java/lang/invoke/MethodHandle" ∧ yX10_evenness.cls ≠ "java/lang/invoke/VarHandle" ∧ (parseMethodDescriptor yX10_evenness.desc).map (fun d => d.parameters.length) = some 0 := by decide +kernel
abbrev mX10_hashes : AM := (RX10, cX10_hashes, 3, (Option.none : Option Jvm.ClassFile.FieldType), false)
theorem ydX10_hashes : yX10_hashes.cls ≠ "java/lang/invoke/MethodHandle" ∧ yX10_hashes.cls ≠ "java/lang/invoke/VarHandle" ∧ (parseMethodDescriptor yX10_hashes.desc).map (fun d => d.parameters.length) = some 1 := by decide +kernel
abbrev mX10_hashesHole : AM := (RX10, cX10_hashesHole, 3, (Option.none : Option Jvm.ClassFile.FieldType), false)
theorem ydX10_hashesHole : yX10_hashesHole.cls ≠ "java/lang/invoke/MethodHandle" ∧ yX10_hashesHole.cls ≠ "java/lang/invoke/VarHandle" ∧ (parseMethodDescriptor yX10_hashesHole.desc).map (fun d => d.parameters.length) = some 1 := by decide +kernel
abbrev mX10_digest : AM := (RX10, cX10_digest, 2, (Option.some Jvm.ClassFile.FieldType.long), false)
theorem ydX10_digest : yX10_digest.cls ≠ "java/lang/invoke/MethodHandle" ∧ yX10_digest.cls ≠ "java/lang/invoke/VarHandle" ∧ (parseMethodDescriptor yX10_digest.desc).map (fun d => d.parameters.length) = some 0 := by decide +kernel
theorem gc_L_81 : GoodIn aw_all (wsM yX9_init mX9_init) := good_I wc_X9_init
theorem gc_X9_9 : GoodIn aw_all (wsM yX5_init mX5_init) := good_I wc_X5_init
theorem gc_X5_44 : GoodIn aw_all (wsM yX1_init mX1_init) := good_I wc_X1_init
theorem gc_X9_18 : GoodIn aw_all (wsM yX3_init mX3_init) := good_I wc_X3_init
theorem gc_X3_17 : GoodIn aw_all (wsM yX5_init mX5_init) := good_I wc_X5_init
theorem gc_X9_25 : GoodIn aw_all (wsM yX4_init mX4_init) := good_I wc_X4_init
theorem gc_X4_9 : GoodIn aw_all (wsM yX5_init mX5_init) := good_I wc_X5_init
theorem gc_X9_35 : GoodIn aw_all (wsM yX6_init mX6_init) := good_I wc_X6_init
theorem gc_X9_42 : GoodIn aw_all (wsM yX7_init mX7_init) := good_I wc_X7_init
theorem gc_L_110 : GoodIn aw_all (wsV RL 110 RX9 yX9_read (wsM yX9_read mX9_read)) := good_V wl_L_110 wi_X9_read ws9_X9_read wn_X9 wc_X9_read
theorem gc_X9_65 : GoodIn aw_all (wsV RX9 65 RX3 yX3_push (wsM yX3_push mX3_push)) := good_V wl_X9_65 wi_X3_push ws9_X3_push wn_X3 wc_X3_push
theorem gc_X3_22 : GoodIn aw_all (wsV RX3 22 RX3 yX3_stateAt (wsM yX3_stateAt mX3_stateAt)) := good_V wl_X3_22 wi_X3_stateAt ws9_X3_stateAt wn_X3 wc_X3_stateAt
theorem gc_X3_26 : GoodIn aw_all (wsV RX3 26 RX5 yX5_become (wsM yX5_become mX5_become)) := good_V wl_X3_26 wi_X5_become ws9_X5_become wn_X5 wc_X5_become
theorem gc_X5_49 : GoodIn aw_all (va_wsS RX5 49 yX2_copy (wsM yX2_copy mX2_copy)) := good_S wl_X5_49 wt_X2_copy wn_X2 wc_X2_copy
theorem gc_X5_55 : GoodIn aw_all (wsV RX5 55 RX1 yX1_become (wsM yX1_become mX1_become)) := good_V wl_X5_55 wi_X1_become ws9_X1_become wn_X1 wc_X1_become
theorem gc_X1_21 : GoodIn aw_all (va_wsS RX1 21 yX2_copy (wsM yX2_copy mX2_copy)) := good_S wl_X1_21 wt_X2_copy wn_X2 wc_X2_copy
theorem gc_X9_127 : GoodIn aw_all (va_wsS RX9 127 yX8_headAt (wsM yX8_headAt mX8_headAt)) := good_S wl_X9_127 wt_X8_headAt wn_X8 wc_X8_headAt
theorem gc_X8_44 : GoodIn aw_all (va_wsS RX8 44 yX8_speedAt (wsM yX8_speedAt mX8_speedAt)) := good_S wl_X8_44 wt_X8_speedAt wn_X8 wc_X8_speedAt
theorem gc_X8_25 : GoodIn aw_all (va_wsS RX8 25 yX8_distance (wsM yX8_distance mX8_distance)) := good_S wl_X8_25 wt_X8_distance wn_X8 wc_X8_distance
theorem gc_X8_9 : GoodIn aw_all (va_wsS RX8 9 yX0_quotient (wsM yX0_quotient mX0_quotient)) := good_S wl_X8_9 wt_X0_quotient wn_X0 wc_X0_quotient
theorem gc_X8_15 : GoodIn aw_all (va_wsS RX8 15 yX0_wholeRoot (wsM yX0_wholeRoot mX0_wholeRoot)) := good_S wl_X8_15 wt_X0_wholeRoot wn_X0 wc_X0_wholeRoot
theorem gc_X8_35 : GoodIn aw_all (va_wsS RX8 35 yX2_at (wsM yX2_at mX2_at)) := good_S wl_X8_35 wt_X2_at wn_X2 wc_X2_at
theorem gc_X9_133 : GoodIn aw_all (va_wsS RX9 133 yX8_feltAt (wsM yX8_feltAt mX8_feltAt)) := good_S wl_X9_133 wt_X8_feltAt wn_X8 wc_X8_feltAt
theorem gc_X9_101 : GoodIn aw_all (va_wsS RX9 101 yX2_put (wsM yX2_put mX2_put)) := good_S wl_X9_101 wt_X2_put wn_X2 wc_X2_put
theorem gc_X9_137 : GoodIn aw_all (wsV RX9 137 RX5 yX5_takeReading (wsM yX5_takeReading mX5_takeReading)) := good_V wl_X9_137 wi_X5_takeReading ws9_X5_takeReading wn_X5 wc_X5_takeReading
theorem gc_X5_84 : GoodIn aw_all (wsV RX5 84 RX1 yX1_add (wsM yX1_add mX1_add)) := good_V wl_X5_84 wi_X1_add ws9_X1_add wn_X1 wc_X1_add
theorem gc_X1_35 : GoodIn aw_all (wsV RX1 35 RX1 yX1_remove (wsM yX1_remove mX1_remove)) := good_V wl_X1_35 wi_X1_remove ws9_X1_remove wn_X1 wc_X1_remove
theorem gc_X1_43 : GoodIn aw_all (wsV RX1 43 RX1 yX1_headOf (wsM yX1_headOf mX1_headOf)) := good_V wl_X1_43 wi_X1_headOf ws9_X1_headOf wn_X1 wc_X1_headOf
theorem gc_X1_31 : GoodIn aw_all (va_wsS RX1 31 yX2_at (wsM yX2_at mX2_at)) := good_S wl_X1_31 wt_X2_at wn_X2 wc_X2_at
theorem gc_X1_39 : GoodIn aw_all (va_wsS RX1 39 yX2_put (wsM yX2_put mX2_put)) := good_S wl_X1_39 wt_X2_put wn_X2 wc_X2_put
theorem gc_L_123 : GoodIn aw_all (wsV RL 123 RX9 yX9_clearBuffer (wsM yX9_clearBuffer mX9_clearBuffer)) := good_V wl_L_123 wi_X9_clearBuffer ws9_X9_clearBuffer wn_X9 wc_X9_clearBuffer
theorem gc_L_127 : GoodIn aw_all (wsV RL 127 RX9 yX9_firstError (wsM yX9_firstError mX9_firstError)) := good_V wl_L_127 wi_X9_firstError ws9_X9_firstError wn_X9 wc_X9_firstError
theorem gc_X9_181 : GoodIn aw_all (wsV RX9 181 RX6 yX6_firstWrong (wsM yX6_firstWrong mX6_firstWrong)) := good_V wl_X9_181 wi_X6_firstWrong ws9_X6_firstWrong wn_X6 wc_X6_firstWrong
theorem gc_X6_25 : GoodIn aw_all (va_wsS RX6 25 yX2_at (wsM yX2_at mX2_at)) := good_S wl_X6_25 wt_X2_at wn_X2 wc_X2_at
theorem gc_X6_29 : GoodIn aw_all (va_wsS RX6 29 yX6_isDigit (wsM yX6_isDigit mX6_isDigit)) := good_S wl_X6_29 wt_X6_isDigit wn_X6 wc_X6_isDigit
theorem gc_L_162 : GoodIn aw_all (wsV RL 162 RX9 yX9_worst (wsM yX9_worst mX9_worst)) := good_V wl_L_162 wi_X9_worst ws9_X9_worst wn_X9 wc_X9_worst
theorem gc_X9_224 : GoodIn aw_all (wsV RX9 224 RX7 yX7_judge (wsM yX7_judge mX7_judge)) := good_V wl_X9_224 wi_X7_judge ws9_X7_judge wn_X7 wc_X7_judge
theorem gc_X7_21 : GoodIn aw_all (wsV RX7 21 RX7 yX7_takeMeans (wsM yX7_takeMeans mX7_takeMeans)) := good_V wl_X7_21 wi_X7_takeMeans ws9_X7_takeMeans wn_X7 wc_X7_takeMeans
theorem gc_X7_52 : GoodIn aw_all (va_wsS RX7 52 yX2_clear (wsM yX2_clear mX2_clear)) := good_S wl_X7_52 wt_X2_clear wn_X2 wc_X2_clear
theorem gc_X7_65 : GoodIn aw_all (wsV RX7 65 RX1 yX1_isCounting (wsM yX1_isCounting mX1_isCounting)) := good_V wl_X7_65 wi_X1_isCounting ws9_X1_isCounting wn_X1 wc_X1_isCounting
theorem gc_X7_69 : GoodIn aw_all (va_wsS RX7 69 yX2_at (wsM yX2_at mX2_at)) := good_S wl_X7_69 wt_X2_at wn_X2 wc_X2_at
theorem gc_X7_73 : GoodIn aw_all (wsV RX7 73 RX1 yX1_headOf (wsM yX1_headOf mX1_headOf)) := good_V wl_X7_73 wi_X1_headOf ws9_X1_headOf wn_X1 wc_X1_headOf
theorem gc_X7_32 : GoodIn aw_all (va_wsS RX7 32 yX2_put (wsM yX2_put mX2_put)) := good_S wl_X7_32 wt_X2_put wn_X2 wc_X2_put
theorem gc_X7_77 : GoodIn aw_all (va_wsS RX7 77 yX0_quotient (wsM yX0_quotient mX0_quotient)) := good_S wl_X7_77 wt_X0_quotient wn_X0 wc_X0_quotient
theorem gc_X7_25 : GoodIn aw_all (wsV RX7 25 RX7 yX7_giveReasons (wsM yX7_giveReasons mX7_giveReasons)) := good_V wl_X7_25 wi_X7_giveReasons ws9_X7_giveReasons wn_X7 wc_X7_giveReasons
theorem gc_X7_96 : GoodIn aw_all (wsV RX7 96 RX7 yX7_reasonFor (wsM yX7_reasonFor mX7_reasonFor)) := good_V wl_X7_96 wi_X7_reasonFor ws9_X7_reasonFor wn_X7 wc_X7_reasonFor
theorem gc_X7_29 : GoodIn aw_all (wsV RX7 29 RX7 yX7_tellSpeeds (wsM yX7_tellSpeeds mX7_tellSpeeds)) := good_V wl_X7_29 wi_X7_tellSpeeds ws9_X7_tellSpeeds wn_X7 wc_X7_tellSpeeds
theorem gc_X7_100 : GoodIn aw_all (va_wsS RX7 100 yX0_wholeRoot (wsM yX0_wholeRoot mX0_wholeRoot)) := good_S wl_X7_100 wt_X0_wholeRoot wn_X0 wc_X0_wholeRoot
theorem gc_X7_104 : GoodIn aw_all (va_wsS RX7 104 yX7_mended (wsM yX7_mended mX7_mended)) := good_S wl_X7_104 wt_X7_mended wn_X7 wc_X7_mended
theorem gc_X9_251 : GoodIn aw_all (wsV RX9 251 RX9 yX9_worstHole (wsM yX9_worstHole mX9_worstHole)) := good_V wl_X9_251 wi_X9_worstHole ws9_X9_worstHole wn_X9 wc_X9_worstHole
theorem gc_X9_313 : GoodIn aw_all (wsV RX9 313 RX7 yX7_flowOfRings (wsM yX7_flowOfRings mX7_flowOfRings)) := good_V wl_X9_313 wi_X7_flowOfRings ws9_X7_flowOfRings wn_X7 wc_X7_flowOfRings
theorem gc_X7_107 : GoodIn aw_all (va_wsS RX7 107 yX8_flowOfRing (wsM yX8_flowOfRing mX8_flowOfRing)) := good_S wl_X7_107 wt_X8_flowOfRing wn_X8 wc_X8_flowOfRing
theorem gc_X9_248 : GoodIn aw_all (wsV RX9 248 RX9 yX9_wholeIfRight (wsM yX9_wholeIfRight mX9_wholeIfRight)) := good_V wl_X9_248 wi_X9_wholeIfRight ws9_X9_wholeIfRight wn_X9 wc_X9_wholeIfRight
theorem gc_X9_347 : GoodIn aw_all (wsV RX9 347 RX7 yX7_judgeIfRight (wsM yX7_judgeIfRight mX7_judgeIfRight)) := good_V wl_X9_347 wi_X7_judgeIfRight ws9_X7_judgeIfRight wn_X7 wc_X7_judgeIfRight
theorem gc_L_172 : GoodIn aw_all (wsV RL 172 RX9 yX9_evenness (wsM yX9_evenness mX9_evenness)) := good_V wl_L_172 wi_X9_evenness ws9_X9_evenness wn_X9 wc_X9_evenness
theorem gc_X9_264 : GoodIn aw_all (wsV RX9 264 RX7 yX7_leastByGreatest (wsM yX7_leastByGreatest mX7_leastByGreatest)) := good_V wl_X9_264 wi_X7_leastByGreatest ws9_X7_leastByGreatest wn_X7 wc_X7_leastByGreatest
theorem gc_L_177 : GoodIn aw_all (wsV RL 177 RX9 yX9_digest (wsM yX9_digest mX9_digest)) := good_V wl_L_177 wi_X9_digest ws9_X9_digest wn_X9 wc_X9_digest
theorem gc_X9_245 : GoodIn aw_all (wsV RX9 245 RX9 yX9_countValue (wsM yX9_countValue mX9_countValue)) := good_V wl_X9_245 wi_X9_countValue ws9_X9_countValue wn_X9 wc_X9_countValue
theorem gc_X9_332 : GoodIn aw_all (wsV RX9 332 RX7 yX7_countOfReason (wsM yX7_countOfReason mX7_countOfReason)) := good_V wl_X9_332 wi_X7_countOfReason ws9_X7_countOfReason wn_X7 wc_X7_countOfReason
theorem gc_X9_341 : GoodIn aw_all (wsV RX9 341 RX5 yX5_workOfHoles (wsM yX5_workOfHoles mX5_workOfHoles)) := good_V wl_X9_341 wi_X5_workOfHoles ws9_X5_workOfHoles wn_X5 wc_X5_workOfHoles
theorem gc_X5_80 : GoodIn aw_all (va_wsS RX5 80 yX2_at (wsM yX2_at mX2_at)) := good_S wl_X5_80 wt_X2_at wn_X2 wc_X2_at
theorem gc_X9_270 : GoodIn aw_all (va_wsS RX9 270 yX9_mixed (wsM yX9_mixed mX9_mixed)) := good_S wl_X9_270 wt_X9_mixed wn_X9 wc_X9_mixed
theorem gc_X9_95 : GoodIn aw_all (va_wsS RX9 95 yX2_at (wsM yX2_at mX2_at)) := good_S wl_X9_95 wt_X2_at wn_X2 wc_X2_at
theorem gc_X9_274 : GoodIn aw_all (wsV RX9 274 RX9 yX9_mixedWithHoles (wsM yX9_mixedWithHoles mX9_mixedWithHoles)) := good_V wl_X9_274 wi_X9_mixedWithHoles ws9_X9_mixedWithHoles wn_X9 wc_X9_mixedWithHoles
theorem gc_X9_227 : GoodIn aw_all (wsV RX9 227 RX9 yX9_holeValue (wsM yX9_holeValue mX9_holeValue)) := good_V wl_X9_227 wi_X9_holeValue ws9_X9_holeValue wn_X9 wc_X9_holeValue
theorem gc_X9_291 : GoodIn aw_all (va_wsS RX9 291 yX8_distance (wsM yX8_distance mX8_distance)) := good_S wl_X9_291 wt_X8_distance wn_X8 wc_X8_distance
theorem gc_X9_295 : GoodIn aw_all (va_wsS RX9 295 yX8_speedAt (wsM yX8_speedAt mX8_speedAt)) := good_S wl_X9_295 wt_X8_speedAt wn_X8 wc_X8_speedAt
theorem gc_X9_278 : GoodIn aw_all (wsV RX9 278 RX9 yX9_mixedWithReadings (wsM yX9_mixedWithReadings mX9_mixedWithReadings)) := good_V wl_X9_278 wi_X9_mixedWithReadings ws9_X9_mixedWithReadings wn_X9 wc_X9_mixedWithReadings
theorem gc_X9_233 : GoodIn aw_all (wsV RX9 233 RX9 yX9_readingValue (wsM yX9_readingValue mX9_readingValue)) := good_V wl_X9_233 wi_X9_readingValue ws9_X9_readingValue wn_X9 wc_X9_readingValue
theorem gc_X9_325 : GoodIn aw_all (wsV RX9 325 RX1 yX1_isCounting (wsM yX1_isCounting mX1_isCounting)) := good_V wl_X9_325 wi_X1_isCounting ws9_X1_isCounting wn_X1 wc_X1_isCounting
theorem gc_X9_329 : GoodIn aw_all (wsV RX9 329 RX1 yX1_headOf (wsM yX1_headOf mX1_headOf)) := good_V wl_X9_329 wi_X1_headOf ws9_X1_headOf wn_X1 wc_X1_headOf
theorem gc_X9_239 : GoodIn aw_all (wsV RX9 239 RX9 yX9_flowValue (wsM yX9_flowValue mX9_flowValue)) := good_V wl_X9_239 wi_X9_flowValue ws9_X9_flowValue wn_X9 wc_X9_flowValue
theorem gc_X9_255 : GoodIn aw_all (va_wsS RX9 255 yX8_whole (wsM yX8_whole mX8_whole)) := good_S wl_X9_255 wt_X8_whole wn_X8 wc_X8_whole
theorem gc_X8_54 : GoodIn aw_all (va_wsS RX8 54 yX8_flowOfRing (wsM yX8_flowOfRing mX8_flowOfRing)) := good_S wl_X8_54 wt_X8_flowOfRing wn_X8 wc_X8_flowOfRing
theorem gc_X9_261 : GoodIn aw_all (wsV RX9 261 RX9 yX9_fewestHoles (wsM yX9_fewestHoles mX9_fewestHoles)) := good_V wl_X9_261 wi_X9_fewestHoles ws9_X9_fewestHoles wn_X9 wc_X9_fewestHoles
theorem gc_X9_282 : GoodIn aw_all (va_wsS RX9 282 yX0_bitsOfShare (wsM yX0_bitsOfShare mX0_bitsOfShare)) := good_S wl_X9_282 wt_X0_bitsOfShare wn_X0 wc_X0_bitsOfShare
theorem gc_X9_288 : GoodIn aw_all (wsV RX9 288 RX9 yX9_mixedWithBuffer (wsM yX9_mixedWithBuffer mX9_mixedWithBuffer)) := good_V wl_X9_288 wi_X9_mixedWithBuffer ws9_X9_mixedWithBuffer wn_X9 wc_X9_mixedWithBuffer
theorem gc_L_7 : GoodIn aw_all (wsV RL 7 RX9 yX9_rake (wsM yX9_rake mX9_rake)) := good_V wl_L_7 wi_X9_rake ws9_X9_rake wn_X9 wc_X9_rake
theorem gc_X9_54 : GoodIn aw_all (va_wsS RX9 54 yX9_isNoRake (wsM yX9_isNoRake mX9_isNoRake)) := good_S wl_X9_54 wt_X9_isNoRake wn_X9 wc_X9_isNoRake
theorem gc_X9_73 : GoodIn aw_all (wsV RX9 73 RX5 yX5_putRake (wsM yX5_putRake mX5_putRake)) := good_V wl_X9_73 wi_X5_putRake ws9_X5_putRake wn_X5 wc_X5_putRake
theorem gc_X5_68 : GoodIn aw_all (wsV RX5 68 RX5 yX5_workOfHoles (wsM yX5_workOfHoles mX5_workOfHoles)) := good_V wl_X5_68 wi_X5_workOfHoles ws9_X5_workOfHoles wn_X5 wc_X5_workOfHoles
theorem gc_X5_72 : GoodIn aw_all (wsV RX5 72 RX5 yX5_clearHole (wsM yX5_clearHole mX5_clearHole)) := good_V wl_X5_72 wi_X5_clearHole ws9_X5_clearHole wn_X5 wc_X5_clearHole
theorem gc_X5_76 : GoodIn aw_all (va_wsS RX5 76 yX2_put (wsM yX2_put mX2_put)) := good_S wl_X5_76 wt_X2_put wn_X2 wc_X2_put
theorem gc_L_15 : GoodIn aw_all (wsV RL 15 RX9 yX9_radius (wsM yX9_radius mX9_radius)) := good_V wl_L_15 wi_X9_radius ws9_X9_radius wn_X9 wc_X9_radius
theorem gc_L_18 : GoodIn aw_all (wsV RL 18 RX9 yX9_block (wsM yX9_block mX9_block)) := good_V wl_L_18 wi_X9_block ws9_X9_block wn_X9 wc_X9_block
theorem gc_X9_82 : GoodIn aw_all (wsV RX9 82 RX9 yX9_isNoHole (wsM yX9_isNoHole mX9_isNoHole)) := good_V wl_X9_82 wi_X9_isNoHole ws9_X9_isNoHole wn_X9 wc_X9_isNoHole
theorem gc_L_24 : GoodIn aw_all (wsV RL 24 RX9 yX9_leak (wsM yX9_leak mX9_leak)) := good_V wl_L_24 wi_X9_leak ws9_X9_leak wn_X9 wc_X9_leak
theorem gc_L_27 : GoodIn aw_all (wsV RL 27 RX9 yX9_clean (wsM yX9_clean mX9_clean)) := good_V wl_L_27 wi_X9_clean ws9_X9_clean wn_X9 wc_X9_clean
theorem gc_X9_110 : GoodIn aw_all (wsV RX9 110 RX5 yX5_workOfCleaning (wsM yX5_workOfCleaning mX5_workOfCleaning)) := good_V wl_X9_110 wi_X5_workOfCleaning ws9_X5_workOfCleaning wn_X5 wc_X5_workOfCleaning
theorem gc_X9_114 : GoodIn aw_all (wsV RX9 114 RX5 yX5_clearHole (wsM yX5_clearHole mX5_clearHole)) := good_V wl_X9_114 wi_X5_clearHole ws9_X5_clearHole wn_X5 wc_X5_clearHole
theorem gc_X9_117 : GoodIn aw_all (wsV RX9 117 RX5 yX5_addHoleWork (wsM yX5_addHoleWork mX5_addHoleWork)) := good_V wl_X9_117 wi_X5_addHoleWork ws9_X5_addHoleWork wn_X5 wc_X5_addHoleWork
theorem gc_L_30 : GoodIn aw_all (wsV RL 30 RX9 yX9_test (wsM yX9_test mX9_test)) := good_V wl_L_30 wi_X9_test ws9_X9_test wn_X9 wc_X9_test
theorem gc_L_33 : GoodIn aw_all (wsV RL 33 RX9 yX9_drop (wsM yX9_drop mX9_drop)) := good_V wl_L_33 wi_X9_drop ws9_X9_drop wn_X9 wc_X9_drop
theorem gc_X9_150 : GoodIn aw_all (wsV RX9 150 RX9 yX9_isNoReading (wsM yX9_isNoReading mX9_isNoReading)) := good_V wl_X9_150 wi_X9_isNoReading ws9_X9_isNoReading wn_X9 wc_X9_isNoReading
theorem gc_X9_155 : GoodIn aw_all (wsV RX9 155 RX1 yX1_remove (wsM yX1_remove mX1_remove)) := good_V wl_X9_155 wi_X1_remove ws9_X1_remove wn_X1 wc_X1_remove
theorem gc_L_36 : GoodIn aw_all (wsV RL 36 RX9 yX9_set (wsM yX9_set mX9_set)) := good_V wl_L_36 wi_X9_set ws9_X9_set wn_X9 wc_X9_set
theorem gc_X9_158 : GoodIn aw_all (va_wsS RX9 158 yX9_isNoSetting (wsM yX9_isNoSetting mX9_isNoSetting)) := good_S wl_X9_158 wt_X9_isNoSetting wn_X9 wc_X9_isNoSetting
theorem gc_L_39 : GoodIn aw_all (wsV RL 39 RX9 yX9_append (wsM yX9_append mX9_append)) := good_V wl_L_39 wi_X9_append ws9_X9_append wn_X9 wc_X9_append
theorem gc_X9_178 : GoodIn aw_all (wsV RX9 178 RX6 yX6_add (wsM yX6_add mX6_add)) := good_V wl_X9_178 wi_X6_add ws9_X6_add wn_X6 wc_X6_add
theorem gc_X6_19 : GoodIn aw_all (va_wsS RX6 19 yX2_put (wsM yX2_put mX2_put)) := good_S wl_X6_19 wt_X2_put wn_X2 wc_X2_put
theorem gc_L_44 : GoodIn aw_all (wsV RL 44 RX9 yX9_load (wsM yX9_load mX9_load)) := good_V wl_L_44 wi_X9_load ws9_X9_load wn_X9 wc_X9_load
theorem gc_X9_185 : GoodIn aw_all (wsV RX9 185 RX6 yX6_tellsReading (wsM yX6_tellsReading mX6_tellsReading)) := good_V wl_X9_185 wi_X6_tellsReading ws9_X6_tellsReading wn_X6 wc_X6_tellsReading
theorem gc_X6_33 : GoodIn aw_all (wsV RX6 33 RX6 yX6_firstWrong (wsM yX6_firstWrong mX6_firstWrong)) := good_V wl_X6_33 wi_X6_firstWrong ws9_X6_firstWrong wn_X6 wc_X6_firstWrong
theorem gc_X9_191 : GoodIn aw_all (wsV RX9 191 RX6 yX6_headsInto (wsM yX6_headsInto mX6_headsInto)) := good_V wl_X9_191 wi_X6_headsInto ws9_X6_headsInto wn_X6 wc_X6_headsInto
theorem gc_L_48 : GoodIn aw_all (wsV RL 48 RX9 yX9_keep (wsM yX9_keep mX9_keep)) := good_V wl_L_48 wi_X9_keep ws9_X9_keep wn_X9 wc_X9_keep
theorem gc_X9_195 : GoodIn aw_all (va_wsS RX9 195 yX9_isNoSlot (wsM yX9_isNoSlot mX9_isNoSlot)) := good_S wl_X9_195 wt_X9_isNoSlot wn_X9 wc_X9_isNoSlot
theorem gc_X9_200 : GoodIn aw_all (wsV RX9 200 RX9 yX9_slotOf (wsM yX9_slotOf mX9_slotOf)) := good_V wl_X9_200 wi_X9_slotOf ws9_X9_slotOf wn_X9 wc_X9_slotOf
theorem gc_X9_207 : GoodIn aw_all (wsV RX9 207 RX5 yX5_become (wsM yX5_become mX5_become)) := good_V wl_X9_207 wi_X5_become ws9_X5_become wn_X5 wc_X5_become
theorem gc_L_51 : GoodIn aw_all (wsV RL 51 RX9 yX9_goBack (wsM yX9_goBack mX9_goBack)) := good_V wl_L_51 wi_X9_goBack ws9_X9_goBack wn_X9 wc_X9_goBack
theorem gc_L_54 : GoodIn aw_all (wsV RL 54 RX9 yX9_undo (wsM yX9_undo mX9_undo)) := good_V wl_L_54 wi_X9_undo ws9_X9_undo wn_X9 wc_X9_undo
theorem gc_X9_219 : GoodIn aw_all (wsV RX9 219 RX3 yX3_popInto (wsM yX3_popInto mX3_popInto)) := good_V wl_X9_219 wi_X3_popInto ws9_X3_popInto wn_X3 wc_X3_popInto
theorem gc_L_57 : GoodIn aw_all (wsV RL 57 RX9 yX9_hole (wsM yX9_hole mX9_hole)) := good_V wl_L_57 wi_X9_hole ws9_X9_hole wn_X9 wc_X9_hole
theorem gc_L_60 : GoodIn aw_all (wsV RL 60 RX9 yX9_reading (wsM yX9_reading mX9_reading)) := good_V wl_L_60 wi_X9_reading ws9_X9_reading wn_X9 wc_X9_reading
theorem gc_L_63 : GoodIn aw_all (wsV RL 63 RX9 yX9_flow (wsM yX9_flow mX9_flow)) := good_V wl_L_63 wi_X9_flow ws9_X9_flow wn_X9 wc_X9_flow
theorem gc_L_66 : GoodIn aw_all (wsV RL 66 RX9 yX9_count (wsM yX9_count mX9_count)) := good_V wl_L_66 wi_X9_count ws9_X9_count wn_X9 wc_X9_count
theorem gc_L_69 : GoodIn aw_all (wsV RL 69 RX9 yX9_setting (wsM yX9_setting mX9_setting)) := good_V wl_L_69 wi_X9_setting ws9_X9_setting wn_X9 wc_X9_setting
theorem gc_L_72 : GoodIn aw_all (wsV RL 72 RX9 yX9_ifRight (wsM yX9_ifRight mX9_ifRight)) := good_V wl_L_72 wi_X9_ifRight ws9_X9_ifRight wn_X9 wc_X9_ifRight
theorem gc_L_75 : GoodIn aw_all (wsV RL 75 RX9 yX9_ifRake (wsM yX9_ifRake mX9_ifRake)) := good_V wl_L_75 wi_X9_ifRake ws9_X9_ifRake wn_X9 wc_X9_ifRake
theorem gc_L_78 : GoodIn aw_all (wsV RL 78 RX9 yX9_fineRake (wsM yX9_fineRake mX9_fineRake)) := good_V wl_L_78 wi_X9_fineRake ws9_X9_fineRake wn_X9 wc_X9_fineRake
theorem gc_L_84 : GoodIn aw_all (wsM yX10_init mX10_init) := good_I wc_X10_init
theorem gc_X10_42 : GoodIn aw_all (wsV RX10 42 RX10 yX10_clearsHoles (wsM yX10_clearsHoles mX10_clearsHoles)) := good_V wl_X10_42 wi_X10_clearsHoles ws9_X10_clearsHoles wn_X10 wc_X10_clearsHoles
theorem gc_X10_49 : GoodIn aw_all (wsV RX10 49 RX10 yX10_lay (wsM yX10_lay mX10_lay)) := good_V wl_X10_49 wi_X10_lay ws9_X10_lay wn_X10 wc_X10_lay
theorem gc_L_91 : GoodIn aw_all (wsV RL 91 RX10 yX10_thrown (wsM yX10_thrown mX10_thrown)) := good_V wl_L_91 wi_X10_thrown ws9_X10_thrown wn_X10 wc_X10_thrown
theorem gc_L_90 : GoodIn aw_all (wsV RL 90 RX10 yX10_rake (wsM yX10_rake mX10_rake)) := good_V wl_L_90 wi_X10_rake ws9_X10_rake wn_X10 wc_X10_rake
theorem gc_X10_45 : GoodIn aw_all (va_wsS RX10 45 yX10_in (wsM yX10_in mX10_in)) := good_S wl_X10_45 wt_X10_in wn_X10 wc_X10_in
theorem gc_X10_110 : GoodIn aw_all (wsV RX10 110 RX10 yX10_fails (wsM yX10_fails mX10_fails)) := good_V wl_X10_110 wi_X10_fails ws9_X10_fails wn_X10 wc_X10_fails
theorem gc_X10_113 : GoodIn aw_all (wsV RX10 113 RX10 yX10_saves (wsM yX10_saves mX10_saves)) := good_V wl_X10_113 wi_X10_saves ws9_X10_saves wn_X10 wc_X10_saves
theorem gc_X10_116 : GoodIn aw_all (wsV RX10 116 RX10 yX10_holeWork (wsM yX10_holeWork mX10_holeWork)) := good_V wl_X10_116 wi_X10_holeWork ws9_X10_holeWork wn_X10 wc_X10_holeWork
theorem gc_X10_71 : GoodIn aw_all (wsV RX10 71 RX10 yX10_of (wsM yX10_of mX10_of)) := good_V wl_X10_71 wi_X10_of ws9_X10_of wn_X10 wc_X10_of
theorem gc_L_96 : GoodIn aw_all (wsV RL 96 RX10 yX10_radius (wsM yX10_radius mX10_radius)) := good_V wl_L_96 wi_X10_radius ws9_X10_radius wn_X10 wc_X10_radius
theorem gc_L_100 : GoodIn aw_all (wsV RL 100 RX10 yX10_block (wsM yX10_block mX10_block)) := good_V wl_L_100 wi_X10_block ws9_X10_block wn_X10 wc_X10_block
theorem gc_X10_120 : GoodIn aw_all (wsV RX10 120 RX10 yX10_changes (wsM yX10_changes mX10_changes)) := good_V wl_X10_120 wi_X10_changes ws9_X10_changes wn_X10 wc_X10_changes
theorem gc_X10_87 : GoodIn aw_all (wsV RX10 87 RX10 yX10_isHole (wsM yX10_isHole mX10_isHole)) := good_V wl_X10_87 wi_X10_isHole ws9_X10_isHole wn_X10 wc_X10_isHole
theorem gc_L_103 : GoodIn aw_all (wsV RL 103 RX10 yX10_leak (wsM yX10_leak mX10_leak)) := good_V wl_L_103 wi_X10_leak ws9_X10_leak wn_X10 wc_X10_leak
theorem gc_L_106 : GoodIn aw_all (wsV RL 106 RX10 yX10_clean (wsM yX10_clean mX10_clean)) := good_V wl_L_106 wi_X10_clean ws9_X10_clean wn_X10 wc_X10_clean
theorem gc_L_109 : GoodIn aw_all (wsV RL 109 RX10 yX10_test (wsM yX10_test mX10_test)) := good_V wl_L_109 wi_X10_test ws9_X10_test wn_X10 wc_X10_test
theorem gc_L_113 : GoodIn aw_all (wsV RL 113 RX10 yX10_read (wsM yX10_read mX10_read)) := good_V wl_L_113 wi_X10_read ws9_X10_read wn_X10 wc_X10_read
theorem gc_X10_127 : GoodIn aw_all (wsV RX10 127 RX10 yX10_comes (wsM yX10_comes mX10_comes)) := good_V wl_X10_127 wi_X10_comes ws9_X10_comes wn_X10 wc_X10_comes
theorem gc_X10_124 : GoodIn aw_all (wsV RX10 124 RX10 yX10_drops (wsM yX10_drops mX10_drops)) := good_V wl_X10_124 wi_X10_drops ws9_X10_drops wn_X10 wc_X10_drops
theorem gc_X10_130 : GoodIn aw_all (wsV RX10 130 RX10 yX10_felt (wsM yX10_felt mX10_felt)) := good_V wl_X10_130 wi_X10_felt ws9_X10_felt wn_X10 wc_X10_felt
theorem gc_X10_68 : GoodIn aw_all (wsV RX10 68 RX10 yX10_trueHead (wsM yX10_trueHead mX10_trueHead)) := good_V wl_X10_68 wi_X10_trueHead ws9_X10_trueHead wn_X10 wc_X10_trueHead
theorem gc_X10_65 : GoodIn aw_all (wsV RX10 65 RX10 yX10_trueSpeed (wsM yX10_trueSpeed mX10_trueSpeed)) := good_V wl_X10_65 wi_X10_trueSpeed ws9_X10_trueSpeed wn_X10 wc_X10_trueSpeed
theorem gc_X10_61 : GoodIn aw_all (wsV RX10 61 RX10 yX10_distance (wsM yX10_distance mX10_distance)) := good_V wl_X10_61 wi_X10_distance ws9_X10_distance wn_X10 wc_X10_distance
theorem gc_X10_57 : GoodIn aw_all (va_wsS RX10 57 yX10_root (wsM yX10_root mX10_root)) := good_S wl_X10_57 wt_X10_root wn_X10 wc_X10_root
theorem gc_L_116 : GoodIn aw_all (wsV RL 116 RX10 yX10_drop (wsM yX10_drop mX10_drop)) := good_V wl_L_116 wi_X10_drop ws9_X10_drop wn_X10 wc_X10_drop
theorem gc_L_119 : GoodIn aw_all (wsV RL 119 RX10 yX10_set (wsM yX10_set mX10_set)) := good_V wl_L_119 wi_X10_set ws9_X10_set wn_X10 wc_X10_set
theorem gc_X10_133 : GoodIn aw_all (va_wsS RX10 133 yX10_isSetting (wsM yX10_isSetting mX10_isSetting)) := good_S wl_X10_133 wt_X10_isSetting wn_X10 wc_X10_isSetting
theorem gc_L_122 : GoodIn aw_all (wsV RL 122 RX10 yX10_append (wsM yX10_append mX10_append)) := good_V wl_L_122 wi_X10_append ws9_X10_append wn_X10 wc_X10_append
theorem gc_L_126 : GoodIn aw_all (wsV RL 126 RX10 yX10_clearBuffer (wsM yX10_clearBuffer mX10_clearBuffer)) := good_V wl_L_126 wi_X10_clearBuffer ws9_X10_clearBuffer wn_X10 wc_X10_clearBuffer
theorem gc_L_130 : GoodIn aw_all (wsV RL 130 RX10 yX10_firstError (wsM yX10_firstError mX10_firstError)) := good_V wl_L_130 wi_X10_firstError ws9_X10_firstError wn_X10 wc_X10_firstError
theorem gc_X10_157 : GoodIn aw_all (wsV RX10 157 RX10 yX10_readsAll (wsM yX10_readsAll mX10_readsAll)) := good_V wl_X10_157 wi_X10_readsAll ws9_X10_readsAll wn_X10 wc_X10_readsAll
theorem gc_X10_154 : GoodIn aw_all (wsV RX10 154 RX10 yX10_readsHead (wsM yX10_readsHead mX10_readsHead)) := good_V wl_X10_154 wi_X10_readsHead ws9_X10_readsHead wn_X10 wc_X10_readsHead
theorem gc_X10_143 : GoodIn aw_all (wsV RX10 143 RX10 yX10_sign (wsM yX10_sign mX10_sign)) := good_V wl_X10_143 wi_X10_sign ws9_X10_sign wn_X10 wc_X10_sign
theorem gc_L_134 : GoodIn aw_all (wsV RL 134 RX10 yX10_load (wsM yX10_load mX10_load)) := good_V wl_L_134 wi_X10_load ws9_X10_load wn_X10 wc_X10_load
theorem gc_L_137 : GoodIn aw_all (wsV RL 137 RX10 yX10_keep (wsM yX10_keep mX10_keep)) := good_V wl_L_137 wi_X10_keep ws9_X10_keep wn_X10 wc_X10_keep
theorem gc_L_140 : GoodIn aw_all (wsV RL 140 RX10 yX10_goBack (wsM yX10_goBack mX10_goBack)) := good_V wl_L_140 wi_X10_goBack ws9_X10_goBack wn_X10 wc_X10_goBack
theorem gc_L_143 : GoodIn aw_all (wsV RL 143 RX10 yX10_undo (wsM yX10_undo mX10_undo)) := good_V wl_L_143 wi_X10_undo ws9_X10_undo wn_X10 wc_X10_undo
theorem gc_L_146 : GoodIn aw_all (wsV RL 146 RX10 yX10_hole (wsM yX10_hole mX10_hole)) := good_V wl_L_146 wi_X10_hole ws9_X10_hole wn_X10 wc_X10_hole
theorem gc_X10_166 : GoodIn aw_all (wsV RX10 166 RX10 yX10_tellsHole (wsM yX10_tellsHole mX10_tellsHole)) := good_V wl_X10_166 wi_X10_tellsHole ws9_X10_tellsHole wn_X10 wc_X10_tellsHole
theorem gc_X10_160 : GoodIn aw_all (wsV RX10 160 RX10 yX10_laysAll (wsM yX10_laysAll mX10_laysAll)) := good_V wl_X10_160 wi_X10_laysAll ws9_X10_laysAll wn_X10 wc_X10_laysAll
theorem gc_X10_103 : GoodIn aw_all (wsV RX10 103 RX10 yX10_laysMeans (wsM yX10_laysMeans mX10_laysMeans)) := good_V wl_X10_103 wi_X10_laysMeans ws9_X10_laysMeans wn_X10 wc_X10_laysMeans
theorem gc_X10_83 : GoodIn aw_all (wsV RX10 83 RX10 yX10_counts (wsM yX10_counts mX10_counts)) := good_V wl_X10_83 wi_X10_counts ws9_X10_counts wn_X10 wc_X10_counts
theorem gc_X10_77 : GoodIn aw_all (wsV RX10 77 RX10 yX10_ofReading (wsM yX10_ofReading mX10_ofReading)) := good_V wl_X10_77 wi_X10_ofReading ws9_X10_ofReading wn_X10 wc_X10_ofReading
theorem gc_X10_106 : GoodIn aw_all (wsV RX10 106 RX10 yX10_laysTold (wsM yX10_laysTold mX10_laysTold)) := good_V wl_X10_106 wi_X10_laysTold ws9_X10_laysTold wn_X10 wc_X10_laysTold
theorem gc_X10_96 : GoodIn aw_all (wsV RX10 96 RX10 yX10_reason (wsM yX10_reason mX10_reason)) := good_V wl_X10_96 wi_X10_reason ws9_X10_reason wn_X10 wc_X10_reason
theorem gc_X10_100 : GoodIn aw_all (wsV RX10 100 RX10 yX10_mended (wsM yX10_mended mX10_mended)) := good_V wl_X10_100 wi_X10_mended ws9_X10_mended wn_X10 wc_X10_mended
theorem gc_X10_90 : GoodIn aw_all (wsV RX10 90 RX10 yX10_nearest (wsM yX10_nearest mX10_nearest)) := good_V wl_X10_90 wi_X10_nearest ws9_X10_nearest wn_X10 wc_X10_nearest
theorem gc_X10_163 : GoodIn aw_all (wsV RX10 163 RX10 yX10_flowOf (wsM yX10_flowOf mX10_flowOf)) := good_V wl_X10_163 wi_X10_flowOf ws9_X10_flowOf wn_X10 wc_X10_flowOf
theorem gc_X10_74 : GoodIn aw_all (wsV RX10 74 RX10 yX10_ringFlow (wsM yX10_ringFlow mX10_ringFlow)) := good_V wl_X10_74 wi_X10_ringFlow ws9_X10_ringFlow wn_X10 wc_X10_ringFlow
theorem gc_L_149 : GoodIn aw_all (wsV RL 149 RX10 yX10_reading (wsM yX10_reading mX10_reading)) := good_V wl_L_149 wi_X10_reading ws9_X10_reading wn_X10 wc_X10_reading
theorem gc_X10_169 : GoodIn aw_all (wsV RX10 169 RX10 yX10_tellsReading (wsM yX10_tellsReading mX10_tellsReading)) := good_V wl_X10_169 wi_X10_tellsReading ws9_X10_tellsReading wn_X10 wc_X10_tellsReading
theorem gc_L_152 : GoodIn aw_all (wsV RL 152 RX10 yX10_flow (wsM yX10_flow mX10_flow)) := good_V wl_L_152 wi_X10_flow ws9_X10_flow wn_X10 wc_X10_flow
theorem gc_X10_175 : GoodIn aw_all (wsV RX10 175 RX10 yX10_tellsFlow (wsM yX10_tellsFlow mX10_tellsFlow)) := good_V wl_X10_175 wi_X10_tellsFlow ws9_X10_tellsFlow wn_X10 wc_X10_tellsFlow
theorem gc_X10_172 : GoodIn aw_all (wsV RX10 172 RX10 yX10_trueFlow (wsM yX10_trueFlow mX10_trueFlow)) := good_V wl_X10_172 wi_X10_trueFlow ws9_X10_trueFlow wn_X10 wc_X10_trueFlow
theorem gc_L_155 : GoodIn aw_all (wsV RL 155 RX10 yX10_count (wsM yX10_count mX10_count)) := good_V wl_L_155 wi_X10_count ws9_X10_count wn_X10 wc_X10_count
theorem gc_X10_181 : GoodIn aw_all (wsV RX10 181 RX10 yX10_tellsCount (wsM yX10_tellsCount mX10_tellsCount)) := good_V wl_X10_181 wi_X10_tellsCount ws9_X10_tellsCount wn_X10 wc_X10_tellsCount
theorem gc_X10_178 : GoodIn aw_all (wsV RX10 178 RX10 yX10_holesFor (wsM yX10_holesFor mX10_holesFor)) := good_V wl_X10_178 wi_X10_holesFor ws9_X10_holesFor wn_X10 wc_X10_holesFor
theorem gc_L_158 : GoodIn aw_all (wsV RL 158 RX10 yX10_setting (wsM yX10_setting mX10_setting)) := good_V wl_L_158 wi_X10_setting ws9_X10_setting wn_X10 wc_X10_setting
theorem gc_L_161 : GoodIn aw_all (wsV RL 161 RX10 yX10_ifRight (wsM yX10_ifRight mX10_ifRight)) := good_V wl_L_161 wi_X10_ifRight ws9_X10_ifRight wn_X10 wc_X10_ifRight
theorem gc_X10_184 : GoodIn aw_all (wsV RX10 184 RX10 yX10_wholeIfRight (wsM yX10_wholeIfRight mX10_wholeIfRight)) := good_V wl_X10_184 wi_X10_wholeIfRight ws9_X10_wholeIfRight wn_X10 wc_X10_wholeIfRight
theorem gc_L_165 : GoodIn aw_all (wsV RL 165 RX10 yX10_worst (wsM yX10_worst mX10_worst)) := good_V wl_L_165 wi_X10_worst ws9_X10_worst wn_X10 wc_X10_worst
theorem gc_X10_187 : GoodIn aw_all (wsV RX10 187 RX10 yX10_worstOne (wsM yX10_worstOne mX10_worstOne)) := good_V wl_X10_187 wi_X10_worstOne ws9_X10_worstOne wn_X10 wc_X10_worstOne
theorem gc_L_168 : GoodIn aw_all (wsV RL 168 RX10 yX10_ifRake (wsM yX10_ifRake mX10_ifRake)) := good_V wl_L_168 wi_X10_ifRake ws9_X10_ifRake wn_X10 wc_X10_ifRake
theorem gc_L_171 : GoodIn aw_all (wsV RL 171 RX10 yX10_fineRake (wsM yX10_fineRake mX10_fineRake)) := good_V wl_L_171 wi_X10_fineRake ws9_X10_fineRake wn_X10 wc_X10_fineRake
theorem gc_X10_190 : GoodIn aw_all (wsV RX10 190 RX10 yX10_fine (wsM yX10_fine mX10_fine)) := good_V wl_X10_190 wi_X10_fine ws9_X10_fine wn_X10 wc_X10_fine
theorem gc_L_176 : GoodIn aw_all (wsV RL 176 RX10 yX10_evenness (wsM yX10_evenness mX10_evenness)) := good_V wl_L_176 wi_X10_evenness ws9_X10_evenness wn_X10 wc_X10_evenness
theorem gc_X10_193 : GoodIn aw_all (wsV RX10 193 RX10 yX10_even (wsM yX10_even mX10_even)) := good_V wl_X10_193 wi_X10_even ws9_X10_even wn_X10 wc_X10_even
theorem gc_L_181 : GoodIn aw_all (wsV RL 181 RX10 yX10_digest (wsM yX10_digest mX10_digest)) := good_V wl_L_181 wi_X10_digest ws9_X10_digest wn_X10 wc_X10_digest
theorem gc_X10_203 : GoodIn aw_all (wsV RX10 203 RX10 yX10_hashes (wsM yX10_hashes mX10_hashes)) := good_V wl_X10_203 wi_X10_hashes ws9_X10_hashes wn_X10 wc_X10_hashes
theorem gc_X10_209 : GoodIn aw_all (wsV RX10 209 RX10 yX10_hashesHole (wsM yX10_hashesHole mX10_hashesHole)) := good_V wl_X10_209 wi_X10_hashesHole ws9_X10_hashesHole wn_X10 wc_X10_hashesHole
/-- an exact answer and world -/
def rX (v : Option Value) (σ1 : AS) : AR → AS → Prop := fun r τ => r = .inl v ∧ τ = σ1
theorem rX_i {x y : Int32} {σ1 τ : AS} (h : x = y) (h2 : τ = σ1) : rX (some (.int y)) σ1 (.inl (some (.int x))) τ := ⟨by rw [h], h2⟩
theorem rX_l {x y : Int64} {σ1 τ : AS} (h : x = y) (h2 : τ = σ1) : rX (some (.long y)) σ1 (.inl (some (.long x))) τ := ⟨by rw [h], h2⟩
theorem rX_d {x y : UInt64} {σ1 τ : AS} (h : x = y) (h2 : τ = σ1) : rX (some (.double y)) σ1 (.inl (some (.double x))) τ := ⟨by rw [h], h2⟩
theorem rX_r {x y : Nat} {σ1 τ : AS} (h : x = y) (h2 : τ = σ1) : rX (some (.ref y)) σ1 (.inl (some (.ref x))) τ := ⟨by rw [h], h2⟩
theorem rX_v {σ1 τ : AS} (h2 : τ = σ1) : rX none σ1 (.inl none) τ := ⟨rfl, h2⟩
theorem as_self {σ : AS} {a : Nat} {c0 c : AC} (h : σ[a]? = some c0) : (σ.set a c)[a]? = some c := by
  rw [List.getElem?_set_self (List.getElem?_eq_some_iff.mp h).1]
theorem as_ne {σ : AS} {a k : Nat} {c c1 : AC} (h : σ[k]? = some c) (hne : a ≠ k) : (σ.set a c1)[k]? = some c := by
  rw [List.getElem?_set_ne hne]; exact h
section CALLS2
variable {g : AG} {M : AM} {d pc : Nat} {L : List (Nat × Value)} {st : List Value} {σ : AS} {bc bs : Nat} {Q : AR → AS → Prop}
theorem aw_cs {own : String} {index d' n : Nat} {y : MethodName} {M' : AM} {av rest st' : List Value} {v : Option Value} {σ1 : AS} (hd : decode M.2.1 pc = .ok (.invokestatic index, 3)) (hown : M.1 = own) (ct : CT g y M' d' 0 0 av σ (rX v σ1)) (hdd : d' + 1 ≤ d) (hmax : M'.2.2.1 ≤ 17)
    (hG : GoodIn aw_all (va_wsS own index y (wsM y M'))) (hyd : y.cls ≠ "java/lang/invoke/MethodHandle" ∧ y.cls ≠ "java/lang/invoke/VarHandle" ∧ (parseMethodDescriptor y.desc).map (fun d => d.parameters.length) = some n) (hn : av.length = n) (hst : av.reverse ++ rest = st) (hcat : (rest.map fun v => v.category).sum ≤ 8) (hs' : v.toList ++ rest = st')
    (k : AW g M d (pc + 3) L st' σ1 bc bs Q) : AW g M d pc L st σ bc bs Q :=
  aw_invokestatic hd hown ct hdd hmax hG hyd hn hst hcat (Or.inl rfl) (Nat.zero_add _) (Nat.zero_add _) (fun v' σ' h => by
    obtain ⟨h1, h2⟩ := h
    cases h1; subst h2; rw [hs']; exact k)
theorem aw_cv {own C0 : String} {T : u_T} {N ci index d' n b : Nat} {y : MethodName} {M' : AM} {As rest fs st' : List Value} {v : Option Value} {σ1 : AS} (hd : decode M.2.1 pc = .ok (.invokevirtual index, 3)) (hown : M.1 = own) (hs : σ[b]? = some (ac_o ci fs)) (hc : vwCl[ci]? = some (C0, T, N)) (ct : CT g y M' d' 0 0 (.ref b :: As) σ (rX v σ1)) (hdd : d' + 1 ≤ d) (hmax : M'.2.2.1 ≤ 17)
    (hG : GoodIn aw_all (wsV own index C0 y (wsM y M'))) (hyc : y.cls = C0) (hyd : y.cls ≠ "java/lang/invoke/MethodHandle" ∧ y.cls ≠ "java/lang/invoke/VarHandle" ∧ (parseMethodDescriptor y.desc).map (fun d => d.parameters.length) = some n) (hn : As.length = n) (hst : As.reverse ++ .ref b :: rest = st) (hcat : (rest.map fun v => v.category).sum ≤ 8) (hs' : v.toList ++ rest = st')
    (k : AW g M d (pc + 3) L st' σ1 bc bs Q) : AW g M d pc L st σ bc bs Q :=
  aw_invokevirtual hd hown hs hc ct hdd hmax hG ⟨hyc, hyd⟩ hn hst hcat (Or.inl rfl) (Nat.zero_add _) (Nat.zero_add _) (fun v' σ' h => by
    obtain ⟨h1, h2⟩ := h
    cases h1; subst h2; rw [hs']; exact k)
end CALLS2
end
section
def quo (a b : Int32) : Int32 := if b = 0 then 0 else a / b
def atL (l : List Int32) (i : Int32) : Int32 := if i < 0 then 0 else l.getD i.toNatClampNeg 0
def putL (l : List Int32) (i v : Int32) : List Int32 := if i < 0 then l else l.set i.toNatClampNeg v
theorem nI_len {n : Nat} (hn : n < 2 ^ 31) {i : Int32} (h0 : ¬ i < 0) : nI n ≤ i ↔ n ≤ i.toNatClampNeg := by
  obtain ⟨j, hj, rfl⟩ := nI_of h0
  rw [nI_leI hn hj, nI_clamp hj]
theorem at_ge {l : List Int32} {i : Int32} (hn : l.length < 2 ^ 31) (h0 : ¬ i < 0) (h : nI l.length ≤ i) : atL l i = 0 := by
  have h1 := (nI_len hn h0).mp h
  unfold atL
  rw [if_neg h0, List.getD_eq_getElem?_getD, List.getElem?_eq_none h1]; rfl
theorem put_ge {l : List Int32} {i v : Int32} (hn : l.length < 2 ^ 31) (h0 : ¬ i < 0) (h : nI l.length ≤ i) : putL l i v = l := by
  have h1 := (nI_len hn h0).mp h
  unfold putL
  rw [if_neg h0, List.set_eq_of_length_le h1]
theorem in_of {n : Nat} (hn : n < 2 ^ 31) {i : Int32} (h0 : ¬ i < 0) (h : ¬ nI n ≤ i) : vp_in i n := by
  intro q
  rcases q with q | q
  · exact h0 q
  · exact h ((nI_len hn h0).mpr q)
set_option maxHeartbeats 4000000 in
set_option maxRecDepth 100000 in
theorem ct_X0_quotient (g : AG) (d : Nat) (σ : AS) (a b : Int32) : CT g yX0_quotient mX0_quotient (d + 0) 0 0 [.int a, .int b] σ (rX (some (.int (quo a b))) σ) := by
  refine ct_of (by decide) rfl (by decide) (Nat.le_of_ble_eq_true rfl) (L := [(0, .int a), (1, .int b)]) rfl ?_
  refine aw_iload_n (i := 1) dX0_quotient_0 rfl rfl ?_
  refine aw_if_ne (tgt := 8) dX0_quotient_1 (by decide) (fun c_1 => ?_) (fun c_1 => ?_)
  · refine aw_iload_n (i := 0) dX0_quotient_8 rfl rfl ?_
    refine aw_iload_n (i := 1) dX0_quotient_9 rfl rfl ?_
    refine aw_idiv dX0_quotient_10 c_1 ?_
    exact aw_ireturn dX0_quotient_11 rfl rfl (rX_i (by unfold quo; simp [*]) (rfl))
  · refine aw_iconst (v := 0) dX0_quotient_4 rfl ?_
    refine aw_goto (tgt := 11) dX0_quotient_5 (by decide) ?_
    exact aw_ireturn dX0_quotient_11 rfl rfl (rX_i (by unfold quo; simp [*]) (rfl))
set_option maxHeartbeats 4000000 in
set_option maxRecDepth 100000 in
theorem ct_X2_at (g : AG) (d : Nat) (σ : AS) (a : Nat) (l : List Int32) (i : Int32) (h : σ[a]? = some (ac_i l)) (hn : l.length < 2 ^ 31) : CT g yX2_at mX2_at (d + 0) 0 0 [.ref a, .int i] σ (rX (some (.int (atL l i))) σ) := by
  refine ct_of (by decide) rfl (by decide) (Nat.le_of_ble_eq_true rfl) (L := [(0, .ref a), (1, .int i)]) rfl ?_
  refine aw_iload_n (i := 1) dX2_at_0 rfl rfl ?_
  refine aw_if_lt (tgt := 16) dX2_at_1 (by decide) (fun c_1 => ?_) (fun c_1 => ?_)
  · refine aw_iconst (v := 0) dX2_at_16 rfl ?_
    exact aw_ireturn dX2_at_17 rfl rfl (rX_i (by first | (unfold atL; rw [if_pos ‹_›]; done) | (rw [at_ge hn ‹_› ‹_›]; done) | (unfold atL; rw [if_neg ‹_›]; done)) (rfl))
  · refine aw_iload_n (i := 1) dX2_at_4 rfl rfl ?_
    refine aw_aload_n (i := 0) dX2_at_5 rfl rfl ?_
    refine aw_alen (v := nI l.length) dX2_at_6 h rfl ?_
    refine aw_icmp_ge (tgt := 16) dX2_at_7 (by decide) (fun c_2 => ?_) (fun c_2 => ?_)
    · refine aw_iconst (v := 0) dX2_at_16 rfl ?_
      exact aw_ireturn dX2_at_17 rfl rfl (rX_i (by first | (unfold atL; rw [if_pos ‹_›]; done) | (rw [at_ge hn ‹_› ‹_›]; done) | (unfold atL; rw [if_neg ‹_›]; done)) (rfl))
    · refine aw_aload_n (i := 0) dX2_at_10 rfl rfl ?_
      refine aw_iload_n (i := 1) dX2_at_11 rfl rfl ?_
      refine aw_iaload dX2_at_12 h (in_of hn c_1 c_2) rfl ?_
      refine aw_goto (tgt := 17) dX2_at_13 (by decide) ?_
      exact aw_ireturn dX2_at_17 rfl rfl (rX_i (by first | (unfold atL; rw [if_pos ‹_›]; done) | (rw [at_ge hn ‹_› ‹_›]; done) | (unfold atL; rw [if_neg ‹_›]; done)) (rfl))
end
