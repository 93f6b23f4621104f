abbrev mX0_quotient : AM := (RX0, cX0_quotient, 2, (Option.some Jvm.ClassFile.FieldType.int), false)
theorem ydX0_quotient : yX0_quotient.cls ≠ "java/lang/invoke/MethodHandle" ∧ yX0_quotient.cls ≠ "java/lang/invoke/VarHandle" ∧ (parseMethodDescriptor yX0_quotient.desc).map (fun d => d.parameters.length) = some 2 := by decide +kernel
abbrev mX0_wholeRoot : AM := (RX0, cX0_wholeRoot, 6, (Option.some Jvm.ClassFile.FieldType.int), false)
theorem ydX0_wholeRoot : yX0_wholeRoot.cls ≠ "java/lang/invoke/MethodHandle" ∧ yX0_wholeRoot.cls ≠ "java/lang/invoke/VarHandle" ∧ (parseMethodDescriptor yX0_wholeRoot.desc).map (fun d => d.parameters.length) = some 1 := by decide +kernel
abbrev mX0_bitsOfShare : AM := (RX0, cX0_bitsOfShare, 8, (Option.some Jvm.ClassFile.FieldType.long), false)
theorem ydX0_bitsOfShare : yX0_bitsOfShare.cls ≠ "java/lang/invoke/MethodHandle" ∧ yX0_bitsOfShare.cls ≠ "java/lang/invoke/VarHandle" ∧ (parseMethodDescriptor yX0_bitsOfShare.desc).map (fun d => d.parameters.length) = some 1 := by decide +kernel
abbrev mX1_init : AM := (RX1, cX1_init, 1, (Option.none : Option Jvm.ClassFile.FieldType), true)
theorem ydX1_init : yX1_init.cls ≠ "java/lang/invoke/MethodHandle" ∧ yX1_init.cls ≠ "java/lang/invoke/VarHandle" ∧ (parseMethodDescriptor yX1_init.desc).map (fun d => d.parameters.length) = some 0 := by decide +kernel
abbrev mX1_become : AM := (RX1, cX1_become, 2, (Option.none : Option Jvm.ClassFile.FieldType), false)
theorem ydX1_become : yX1_become.cls ≠ "java/lang/invoke/MethodHandle" ∧ yX1_become.cls ≠ "java/lang/invoke/VarHandle" ∧ (parseMethodDescriptor yX1_become.desc).map (fun d => d.parameters.length) = some 1 := by decide +kernel
abbrev mX1_headOf : AM := (RX1, cX1_headOf, 3, (Option.some Jvm.ClassFile.FieldType.int), false)
theorem ydX1_headOf : yX1_headOf.cls ≠ "java/lang/invoke/MethodHandle" ∧ yX1_headOf.cls ≠ "java/lang/invoke/VarHandle" ∧ (parseMethodDescriptor yX1_headOf.desc).map (fun d => d.parameters.length) = some 2 := by decide +kernel
abbrev mX1_isCounting : AM := (RX1, cX1_isCounting, 4, (Option.some Jvm.ClassFile.FieldType.boolean), false)
theorem ydX1_isCounting : yX1_isCounting.cls ≠ "java/lang/invoke/MethodHandle" ∧ yX1_isCounting.cls ≠ "java/lang/invoke/VarHandle" ∧ (parseMethodDescriptor yX1_isCounting.desc).map (fun d => d.parameters.length) = some 3 := by decide +kernel
abbrev mX1_add : AM := (RX1, cX1_add, 5, (Option.none : Option Jvm.ClassFile.FieldType), false)
theorem ydX1_add : yX1_add.cls ≠ "java/lang/invoke/MethodHandle" ∧ yX1_add.cls ≠ "java/lang/invoke/VarHandle" ∧ (parseMethodDescriptor yX1_add.desc).map (fun d => d.parameters.length) = some 3 := by decide +kernel
abbrev mX1_remove : AM := (RX1, cX1_remove, 4, (Option.none : Option Jvm.ClassFile.FieldType), false)
theorem ydX1_remove : yX1_remove.cls ≠ "java/lang/invoke/MethodHandle" ∧ yX1_remove.cls ≠ "java/lang/invoke/VarHandle" ∧ (parseMethodDescriptor yX1_remove.desc).map (fun d => d.parameters.length) = some 1 := by decide +kernel
abbrev mX2_at : AM := (RX2, cX2_at, 2, (Option.some Jvm.ClassFile.FieldType.int), false)
theorem ydX2_at : yX2_at.cls ≠ "java/lang/invoke/MethodHandle" ∧ yX2_at.cls ≠ "java/lang/invoke/VarHandle" ∧ (parseMethodDescriptor yX2_at.desc).map (fun d => d.parameters.length) = some 2 := by decide +kernel
abbrev mX2_put : AM := (RX2, cX2_put, 3, (Option.none : Option Jvm.ClassFile.FieldType), false)
theorem ydX2_put : yX2_put.cls ≠ "java/lang/invoke/MethodHandle" ∧ yX2_put.cls ≠ "java/lang/invoke/VarHandle" ∧ (parseMethodDescriptor yX2_put.desc).map (fun d => d.parameters.length) = some 3 := by decide +kernel
abbrev mX2_copy : AM := (RX2, cX2_copy, 3, (Option.none : Option Jvm.ClassFile.FieldType), false)
theorem ydX2_copy : yX2_copy.cls ≠ "java/lang/invoke/MethodHandle" ∧ yX2_copy.cls ≠ "java/lang/invoke/VarHandle" ∧ (parseMethodDescriptor yX2_copy.desc).map (fun d => d.parameters.length) = some 2 := by decide +kernel
abbrev mX2_clear : AM := (RX2, cX2_clear, 2, (Option.none : Option Jvm.ClassFile.FieldType), false)
theorem ydX2_clear : yX2_clear.cls ≠ "java/lang/invoke/MethodHandle" ∧ yX2_clear.cls ≠ "java/lang/invoke/VarHandle" ∧ (parseMethodDescriptor yX2_clear.desc).map (fun d => d.parameters.length) = some 1 := by decide +kernel
abbrev mX3_init : AM := (RX3, cX3_init, 2, (Option.none : Option Jvm.ClassFile.FieldType), true)
theorem ydX3_init : yX3_init.cls ≠ "java/lang/invoke/MethodHandle" ∧ yX3_init.cls ≠ "java/lang/invoke/VarHandle" ∧ (parseMethodDescriptor yX3_init.desc).map (fun d => d.parameters.length) = some 0 := by decide +kernel
abbrev mX3_push : AM := (RX3, cX3_push, 3, (Option.none : Option Jvm.ClassFile.FieldType), false)
theorem ydX3_push : yX3_push.cls ≠ "java/lang/invoke/MethodHandle" ∧ yX3_push.cls ≠ "java/lang/invoke/VarHandle" ∧ (parseMethodDescriptor yX3_push.desc).map (fun d => d.parameters.length) = some 1 := by decide +kernel
abbrev mX3_popInto : AM := (RX3, cX3_popInto, 4, (Option.none : Option Jvm.ClassFile.FieldType), false)
theorem ydX3_popInto : yX3_popInto.cls ≠ "java/lang/invoke/MethodHandle" ∧ yX3_popInto.cls ≠ "java/lang/invoke/VarHandle" ∧ (parseMethodDescriptor yX3_popInto.desc).map (fun d => d.parameters.length) = some 1 := by decide +kernel
abbrev mX3_stateAt : AM := (RX3, cX3_stateAt, 2, (Option.some (Jvm.ClassFile.FieldType.object "DuctRake$State")), false)
theorem ydX3_stateAt : yX3_stateAt.cls ≠ "java/lang/invoke/MethodHandle" ∧ yX3_stateAt.cls ≠ "java/lang/invoke/VarHandle" ∧ (parseMethodDescriptor yX3_stateAt.desc).map (fun d => d.parameters.length) = some 1 := by decide +kernel
abbrev mX4_init : AM := (RX4, cX4_init, 1, (Option.none : Option Jvm.ClassFile.FieldType), true)
theorem ydX4_init : yX4_init.cls ≠ "java/lang/invoke/MethodHandle" ∧ yX4_init.cls ≠ "java/lang/invoke/VarHandle" ∧ (parseMethodDescriptor yX4_init.desc).map (fun d => d.parameters.length) = some 0 := by decide +kernel
abbrev mX5_init : AM := (RX5, cX5_init, 2, (Option.none : Option Jvm.ClassFile.FieldType), true)
theorem ydX5_init : yX5_init.cls ≠ "java/lang/invoke/MethodHandle" ∧ yX5_init.cls ≠ "java/lang/invoke/VarHandle" ∧ (parseMethodDescriptor yX5_init.desc).map (fun d => d.parameters.length) = some 0 := by decide +kernel
abbrev mX5_become : AM := (RX5, cX5_become, 2, (Option.none : Option Jvm.ClassFile.FieldType), false)
theorem ydX5_become : yX5_become.cls ≠ "java/lang/invoke/MethodHandle" ∧ yX5_become.cls ≠ "java/lang/invoke/VarHandle" ∧ (parseMethodDescriptor yX5_become.desc).map (fun d => d.parameters.length) = some 1 := by decide +kernel
abbrev mX5_putRake : AM := (RX5, cX5_putRake, 3, (Option.none : Option Jvm.ClassFile.FieldType), false)
theorem ydX5_putRake : yX5_putRake.cls ≠ "java/lang/invoke/MethodHandle" ∧ yX5_putRake.cls ≠ "java/lang/invoke/VarHandle" ∧ (parseMethodDescriptor yX5_putRake.desc).map (fun d => d.parameters.length) = some 1 := by decide +kernel
abbrev mX5_clearHole : AM := (RX5, cX5_clearHole, 2, (Option.none : Option Jvm.ClassFile.FieldType), false)
theorem ydX5_clearHole : yX5_clearHole.cls ≠ "java/lang/invoke/MethodHandle" ∧ yX5_clearHole.cls ≠ "java/lang/invoke/VarHandle" ∧ (parseMethodDescriptor yX5_clearHole.desc).map (fun d => d.parameters.length) = some 1 := by decide +kernel
abbrev mX5_workOfCleaning : AM := (RX5, cX5_workOfCleaning, 4, (Option.some Jvm.ClassFile.FieldType.int), false)
theorem ydX5_workOfCleaning : yX5_workOfCleaning.cls ≠ "java/lang/invoke/MethodHandle" ∧ yX5_workOfCleaning.cls ≠ "java/lang/invoke/VarHandle" ∧ (parseMethodDescriptor yX5_workOfCleaning.desc).map (fun d => d.parameters.length) = some 1 := by decide +kernel
abbrev mX5_addHoleWork : AM := (RX5, cX5_addHoleWork, 3, (Option.none : Option Jvm.ClassFile.FieldType), false)
theorem ydX5_addHoleWork : yX5_addHoleWork.cls ≠ "java/lang/invoke/MethodHandle" ∧ yX5_addHoleWork.cls ≠ "java/lang/invoke/VarHandle" ∧ (parseMethodDescriptor yX5_addHoleWork.desc).map (fun d => d.parameters.length) = some 2 := by decide +kernel
abbrev mX5_workOfHoles : AM := (RX5, cX5_workOfHoles, 3, (Option.some Jvm.ClassFile.FieldType.int), false)
theorem ydX5_workOfHoles : yX5_workOfHoles.cls ≠ "java/lang/invoke/MethodHandle" ∧ yX5_workOfHoles.cls ≠ "java/lang/invoke/VarHandle" ∧ (parseMethodDescriptor yX5_workOfHoles.desc).map (fun d => d.parameters.length) = some 0 := by decide +kernel
abbrev mX5_takeReading : AM := (RX5, cX5_takeReading, 3, (Option.none : Option Jvm.ClassFile.FieldType), false)
theorem ydX5_takeReading : yX5_takeReading.cls ≠ "java/lang/invoke/MethodHandle" ∧ yX5_takeReading.cls ≠ "java/lang/invoke/VarHandle" ∧ (parseMethodDescriptor yX5_takeReading.desc).map (fun d => d.parameters.length) = some 2 := by decide +kernel
abbrev mX6_init : AM := (RX6, cX6_init, 1, (Option.none : Option Jvm.ClassFile.FieldType), true)
theorem ydX6_init : yX6_init.cls ≠ "java/lang/invoke/MethodHandle" ∧ yX6_init.cls ≠ "java/lang/invoke/VarHandle" ∧ (parseMethodDescriptor yX6_init.desc).map (fun d => d.parameters.length) = some 0 := by decide +kernel
abbrev mX6_add : AM := (RX6, cX6_add, 2, (Option.none : Option Jvm.ClassFile.FieldType), false)
theorem ydX6_add : yX6_add.cls ≠ "java/lang/invoke/MethodHandle" ∧ yX6_add.cls ≠ "java/lang/invoke/VarHandle" ∧ (parseMethodDescriptor yX6_add.desc).map (fun d => d.parameters.length) = some 1 := by decide +kernel
abbrev mX6_firstWrong : AM := (RX6, cX6_firstWrong, 6, (Option.some Jvm.ClassFile.FieldType.int), false)
theorem ydX6_firstWrong : yX6_firstWrong.cls ≠ "java/lang/invoke/MethodHandle" ∧ yX6_firstWrong.cls ≠ "java/lang/invoke/VarHandle" ∧ (parseMethodDescriptor yX6_firstWrong.desc).map (fun d => d.parameters.length) = some 0 := by decide +kernel
abbrev mX6_tellsReading : AM := (RX6, cX6_tellsReading, 1, (Option.some Jvm.ClassFile.FieldType.boolean), false)
theorem ydX6_tellsReading : yX6_tellsReading.cls ≠ "java/lang/invoke/MethodHandle" ∧ yX6_tellsReading.cls ≠ "java/lang/invoke/VarHandle" ∧ (parseMethodDescriptor yX6_tellsReading.desc).map (fun d => d.parameters.length) = some 0 := by decide +kernel
abbrev mX6_headsInto : AM := (RX6, cX6_headsInto, 6, (Option.some Jvm.ClassFile.FieldType.int), false)
theorem ydX6_headsInto : yX6_headsInto.cls ≠ "java/lang/invoke/MethodHandle" ∧ yX6_headsInto.cls ≠ "java/lang/invoke/VarHandle" ∧ (parseMethodDescriptor yX6_headsInto.desc).map (fun d => d.parameters.length) = some 1 := by decide +kernel
abbrev mX6_isDigit : AM := (RX6, cX6_isDigit, 1, (Option.some Jvm.ClassFile.FieldType.boolean), false)
theorem ydX6_isDigit : yX6_isDigit.cls ≠ "java/lang/invoke/MethodHandle" ∧ yX6_isDigit.cls ≠ "java/lang/invoke/VarHandle" ∧ (parseMethodDescriptor yX6_isDigit.desc).map (fun d => d.parameters.length) = some 1 := by decide +kernel
abbrev mX7_init : AM := (RX7, cX7_init, 1, (Option.none : Option Jvm.ClassFile.FieldType), true)
theorem ydX7_init : yX7_init.cls ≠ "java/lang/invoke/MethodHandle" ∧ yX7_init.cls ≠ "java/lang/invoke/VarHandle" ∧ (parseMethodDescriptor yX7_init.desc).map (fun d => d.parameters.length) = some 0 := by decide +kernel
abbrev mX7_judge : AM := (RX7, cX7_judge, 2, (Option.none : Option Jvm.ClassFile.FieldType), false)
theorem ydX7_judge : yX7_judge.cls ≠ "java/lang/invoke/MethodHandle" ∧ yX7_judge.cls ≠ "java/lang/invoke/VarHandle" ∧ (parseMethodDescriptor yX7_judge.desc).map (fun d => d.parameters.length) = some 1 := by decide +kernel
abbrev mX7_judgeIfRight : AM := (RX7, cX7_judgeIfRight, 4, (Option.none : Option Jvm.ClassFile.FieldType), false)
theorem ydX7_judgeIfRight : yX7_judgeIfRight.cls ≠ "java/lang/invoke/MethodHandle" ∧ yX7_judgeIfRight.cls ≠ "java/lang/invoke/VarHandle" ∧ (parseMethodDescriptor yX7_judgeIfRight.desc).map (fun d => d.parameters.length) = some 3 := by decide +kernel
abbrev mX7_takeMeans : AM := (RX7, cX7_takeMeans, 5, (Option.none : Option Jvm.ClassFile.FieldType), false)
theorem ydX7_takeMeans : yX7_takeMeans.cls ≠ "java/lang/invoke/MethodHandle" ∧ yX7_takeMeans.cls ≠ "java/lang/invoke/VarHandle" ∧ (parseMethodDescriptor yX7_takeMeans.desc).map (fun d => d.parameters.length) = some 1 := by decide +kernel
abbrev mX7_giveReasons : AM := (RX7, cX7_giveReasons, 8, (Option.none : Option Jvm.ClassFile.FieldType), false)
theorem ydX7_giveReasons : yX7_giveReasons.cls ≠ "java/lang/invoke/MethodHandle" ∧ yX7_giveReasons.cls ≠ "java/lang/invoke/VarHandle" ∧ (parseMethodDescriptor yX7_giveReasons.desc).map (fun d => d.parameters.length) = some 2 := by decide +kernel
abbrev mX7_reasonFor : AM := (RX7, cX7_reasonFor, 4, (Option.some Jvm.ClassFile.FieldType.int), false)
theorem ydX7_reasonFor : yX7_reasonFor.cls ≠ "java/lang/invoke/MethodHandle" ∧ yX7_reasonFor.cls ≠ "java/lang/invoke/VarHandle" ∧ (parseMethodDescriptor yX7_reasonFor.desc).map (fun d => d.parameters.length) = some 3 := by decide +kernel
abbrev mX7_tellSpeeds : AM := (RX7, cX7_tellSpeeds, 4, (Option.none : Option Jvm.ClassFile.FieldType), false)
theorem ydX7_tellSpeeds : yX7_tellSpeeds.cls ≠ "java/lang/invoke/MethodHandle" ∧ yX7_tellSpeeds.cls ≠ "java/lang/invoke/VarHandle" ∧ (parseMethodDescriptor yX7_tellSpeeds.desc).map (fun d => d.parameters.length) = some 0 := by decide +kernel
abbrev mX7_mended : AM := (RX7, cX7_mended, 2, (Option.some Jvm.ClassFile.FieldType.int), false)
theorem ydX7_mended : yX7_mended.cls ≠ "java/lang/invoke/MethodHandle" ∧ yX7_mended.cls ≠ "java/lang/invoke/VarHandle" ∧ (parseMethodDescriptor yX7_mended.desc).map (fun d => d.parameters.length) = some 2 := by decide +kernel
abbrev mX7_flowOfRings : AM := (RX7, cX7_flowOfRings, 5, (Option.some Jvm.ClassFile.FieldType.int), false)
theorem ydX7_flowOfRings : yX7_flowOfRings.cls ≠ "java/lang/invoke/MethodHandle" ∧ yX7_flowOfRings.cls ≠ "java/lang/invoke/VarHandle" ∧ (parseMethodDescriptor yX7_flowOfRings.desc).map (fun d => d.parameters.length) = some 2 := by decide +kernel
abbrev mX7_countOfReason : AM := (RX7, cX7_countOfReason, 4, (Option.some Jvm.ClassFile.FieldType.int), false)
theorem ydX7_countOfReason : yX7_countOfReason.cls ≠ "java/lang/invoke/MethodHandle" ∧ yX7_countOfReason.cls ≠ "java/lang/invoke/VarHandle" ∧ (parseMethodDescriptor yX7_countOfReason.desc).map (fun d => d.parameters.length) = some 1 := by decide +kernel
abbrev mX7_leastByGreatest : AM := (RX7, cX7_leastByGreatest, 4, (Option.some Jvm.ClassFile.FieldType.double), false)
theorem ydX7_leastByGreatest : yX7_leastByGreatest.cls ≠ "java/lang/invoke/MethodHandle" ∧ yX7_leastByGreatest.cls ≠ "java/lang/invoke/VarHandle" ∧ (parseMethodDescriptor yX7_leastByGreatest.desc).map (fun d => d.parameters.length) = some 0 := by decide +kernel
abbrev mX8_distance : AM := (RX8, cX8_distance, 3, (Option.some Jvm.ClassFile.FieldType.int), false)
theorem ydX8_distance : yX8_distance.cls ≠ "java/lang/invoke/MethodHandle" ∧ yX8_distance.cls ≠ "java/lang/invoke/VarHandle" ∧ (parseMethodDescriptor yX8_distance.desc).map (fun d => d.parameters.length) = some 3 := by decide +kernel
abbrev mX8_speedAt : AM := (RX8, cX8_speedAt, 7, (Option.some Jvm.ClassFile.FieldType.int), false)
theorem ydX8_speedAt : yX8_speedAt.cls ≠ "java/lang/invoke/MethodHandle" ∧ yX8_speedAt.cls ≠ "java/lang/invoke/VarHandle" ∧ (parseMethodDescriptor yX8_speedAt.desc).map (fun d => d.parameters.length) = some 3 := by decide +kernel
abbrev mX8_headAt : AM := (RX8, cX8_headAt, 3, (Option.some Jvm.ClassFile.FieldType.int), false)
theorem ydX8_headAt : yX8_headAt.cls ≠ "java/lang/invoke/MethodHandle" ∧ yX8_headAt.cls ≠ "java/lang/invoke/VarHandle" ∧ (parseMethodDescriptor yX8_headAt.desc).map (fun d => d.parameters.length) = some 2 := by decide +kernel
abbrev mX8_feltAt : AM := (RX8, cX8_feltAt, 4, (Option.some Jvm.ClassFile.FieldType.int), false)
theorem ydX8_feltAt : yX8_feltAt.cls ≠ "java/lang/invoke/MethodHandle" ∧ yX8_feltAt.cls ≠ "java/lang/invoke/VarHandle" ∧ (parseMethodDescriptor yX8_feltAt.desc).map (fun d => d.parameters.length) = some 3 := by decide +kernel
abbrev mX8_whole : AM := (RX8, cX8_whole, 4, (Option.some Jvm.ClassFile.FieldType.int), false)
theorem ydX8_whole : yX8_whole.cls ≠ "java/lang/invoke/MethodHandle" ∧ yX8_whole.cls ≠ "java/lang/invoke/VarHandle" ∧ (parseMethodDescriptor yX8_whole.desc).map (fun d => d.parameters.length) = some 2 := by decide +kernel
abbrev mX8_flowOfRing : AM := (RX8, cX8_flowOfRing, 3, (Option.some Jvm.ClassFile.FieldType.int), false)
theorem ydX8_flowOfRing : yX8_flowOfRing.cls ≠ "java/lang/invoke/MethodHandle" ∧ yX8_flowOfRing.cls ≠ "java/lang/invoke/VarHandle" ∧ (parseMethodDescriptor yX8_flowOfRing.desc).map (fun d => d.parameters.length) = some 3 := by decide +kernel
abbrev mX9_init : AM := (RX9, cX9_init, 1, (Option.none : Option Jvm.ClassFile.FieldType), true)
theorem ydX9_init : yX9_init.cls ≠ "java/lang/invoke/MethodHandle" ∧ yX9_init.cls ≠ "java/lang/invoke/VarHandle" ∧ (parseMethodDescriptor yX9_init.desc).map (fun d => d.parameters.length) = some 0 := by decide +kernel
abbrev mX9_rake : AM := (RX9, cX9_rake, 3, (Option.some Jvm.ClassFile.FieldType.int), false)
theorem ydX9_rake : yX9_rake.cls ≠ "java/lang/invoke/MethodHandle" ∧ yX9_rake.cls ≠ "java/lang/invoke/VarHandle" ∧ (parseMethodDescriptor yX9_rake.desc).map (fun d => d.parameters.length) = some 1 := by decide +kernel
abbrev mX9_radius : AM := (RX9, cX9_radius, 3, (Option.some Jvm.ClassFile.FieldType.int), false)
theorem ydX9_radius : yX9_radius.cls ≠ "java/lang/invoke/MethodHandle" ∧ yX9_radius.cls ≠ "java/lang/invoke/VarHandle" ∧ (parseMethodDescriptor yX9_radius.desc).map (fun d => d.parameters.length) = some 1 := by decide +kernel
abbrev mX9_block : AM := (RX9, cX9_block, 4, (Option.some Jvm.ClassFile.FieldType.int), false)
theorem ydX9_block : yX9_block.cls ≠ "java/lang/invoke/MethodHandle" ∧ yX9_block.cls ≠ "java/lang/invoke/VarHandle" ∧ (parseMethodDescriptor yX9_block.desc).map (fun d => d.parameters.length) = some 2 := by decide +kernel
abbrev mX9_leak : AM := (RX9, cX9_leak, 4, (Option.some Jvm.ClassFile.FieldType.int), false)
theorem ydX9_leak : yX9_leak.cls ≠ "java/lang/invoke/MethodHandle" ∧ yX9_leak.cls ≠ "java/lang/invoke/VarHandle" ∧ (parseMethodDescriptor yX9_leak.desc).map (fun d => d.parameters.length) = some 2 := by decide +kernel
abbrev mX9_clean : AM := (RX9, cX9_clean, 3, (Option.some Jvm.ClassFile.FieldType.int), false)
theorem ydX9_clean : yX9_clean.cls ≠ "java/lang/invoke/MethodHandle" ∧ yX9_clean.cls ≠ "java/lang/invoke/VarHandle" ∧ (parseMethodDescriptor yX9_clean.desc).map (fun d => d.parameters.length) = some 1 := by decide +kernel
abbrev mX9_test : AM := (RX9, cX9_test, 4, (Option.some Jvm.ClassFile.FieldType.int), false)
theorem ydX9_test : yX9_test.cls ≠ "java/lang/invoke/MethodHandle" ∧ yX9_test.cls ≠ "java/lang/invoke/VarHandle" ∧ (parseMethodDescriptor yX9_test.desc).map (fun d => d.parameters.length) = some 1 := by decide +kernel
abbrev mX9_read : AM := (RX9, cX9_read, 2, (Option.some Jvm.ClassFile.FieldType.int), false)
theorem ydX9_read : yX9_read.cls ≠ "java/lang/invoke/MethodHandle" ∧ yX9_read.cls ≠ "java/lang/invoke/VarHandle" ∧ (parseMethodDescriptor yX9_read.desc).map (fun d => d.parameters.length) = some 0 := by decide +kernel
abbrev mX9_drop : AM := (RX9, cX9_drop, 2, (Option.some Jvm.ClassFile.FieldType.int), false)
theorem ydX9_drop : yX9_drop.cls ≠ "java/lang/invoke/MethodHandle" ∧ yX9_drop.cls ≠ "java/lang/invoke/VarHandle" ∧ (parseMethodDescriptor yX9_drop.desc).map (fun d => d.parameters.length) = some 1 := by decide +kernel
abbrev mX9_set : AM := (RX9, cX9_set, 4, (Option.some Jvm.ClassFile.FieldType.int), false)
theorem ydX9_set : yX9_set.cls ≠ "java/lang/invoke/MethodHandle" ∧ yX9_set.cls ≠ "java/lang/invoke/VarHandle" ∧ (parseMethodDescriptor yX9_set.desc).map (fun d => d.parameters.length) = some 2 := by decide +kernel
abbrev mX9_append : AM := (RX9, cX9_append, 2, (Option.some Jvm.ClassFile.FieldType.int), false)
theorem ydX9_append : yX9_append.cls ≠ "java/lang/invoke/MethodHandle" ∧ yX9_append.cls ≠ "java/lang/invoke/VarHandle" ∧ (parseMethodDescriptor yX9_append.desc).map (fun d => d.parameters.length) = some 1 := by decide +kernel
abbrev mX9_clearBuffer : AM := (RX9, cX9_clearBuffer, 2, (Option.some Jvm.ClassFile.FieldType.int), false)
theorem ydX9_clearBuffer : yX9_clearBuffer.cls ≠ "java/lang/invoke/MethodHandle" ∧ yX9_clearBuffer.cls ≠ "java/lang/invoke/VarHandle" ∧ (parseMethodDescriptor yX9_clearBuffer.desc).map (fun d => d.parameters.length) = some 0 := by decide +kernel
abbrev mX9_firstError : AM := (RX9, cX9_firstError, 1, (Option.some Jvm.ClassFile.FieldType.int), false)
theorem ydX9_firstError : yX9_firstError.cls ≠ "java/lang/invoke/MethodHandle" ∧ yX9_firstError.cls ≠ "java/lang/invoke/VarHandle" ∧ (parseMethodDescriptor yX9_firstError.desc).map (fun d => d.parameters.length) = some 0 := by decide +kernel
abbrev mX9_load : AM := (RX9, cX9_load, 2, (Option.some Jvm.ClassFile.FieldType.int), false)
theorem ydX9_load : yX9_load.cls ≠ "java/lang/invoke/MethodHandle" ∧ yX9_load.cls ≠ "java/lang/invoke/VarHandle" ∧ (parseMethodDescriptor yX9_load.desc).map (fun d => d.parameters.length) = some 0 := by decide +kernel
abbrev mX9_keep : AM := (RX9, cX9_keep, 3, (Option.some Jvm.ClassFile.FieldType.int), false)
theorem ydX9_keep : yX9_keep.cls ≠ "java/lang/invoke/MethodHandle" ∧ yX9_keep.cls ≠ "java/lang/invoke/VarHandle" ∧ (parseMethodDescriptor yX9_keep.desc).map (fun d => d.parameters.length) = some 1 := by decide +kernel
abbrev mX9_goBack : AM := (RX9, cX9_goBack, 3, (Option.some Jvm.ClassFile.FieldType.int), false)
theorem ydX9_goBack : yX9_goBack.cls ≠ "java/lang/invoke/MethodHandle" ∧ yX9_goBack.cls ≠ "java/lang/invoke/VarHandle" ∧ (parseMethodDescriptor yX9_goBack.desc).map (fun d => d.parameters.length) = some 1 := by decide +kernel
abbrev mX9_undo : AM := (RX9, cX9_undo, 1, (Option.some Jvm.ClassFile.FieldType.int), false)
theorem ydX9_undo : yX9_undo.cls ≠ "java/lang/invoke/MethodHandle" ∧ yX9_undo.cls ≠ "java/lang/invoke/VarHandle" ∧ (parseMethodDescriptor yX9_undo.desc).map (fun d => d.parameters.length) = some 0 := by decide +kernel
abbrev mX9_hole : AM := (RX9, cX9_hole, 3, (Option.some Jvm.ClassFile.FieldType.int), false)
theorem ydX9_hole : yX9_hole.cls ≠ "java/lang/invoke/MethodHandle" ∧ yX9_hole.cls ≠ "java/lang/invoke/VarHandle" ∧ (parseMethodDescriptor yX9_hole.desc).map (fun d => d.parameters.length) = some 2 := by decide +kernel
abbrev mX9_reading : AM := (RX9, cX9_reading, 3, (Option.some Jvm.ClassFile.FieldType.int), false)
theorem ydX9_reading : yX9_reading.cls ≠ "java/lang/invoke/MethodHandle" ∧ yX9_reading.cls ≠ "java/lang/invoke/VarHandle" ∧ (parseMethodDescriptor yX9_reading.desc).map (fun d => d.parameters.length) = some 2 := by decide +kernel
abbrev mX9_flow : AM := (RX9, cX9_flow, 2, (Option.some Jvm.ClassFile.FieldType.int), false)
theorem ydX9_flow : yX9_flow.cls ≠ "java/lang/invoke/MethodHandle" ∧ yX9_flow.cls ≠ "java/lang/invoke/VarHandle" ∧ (parseMethodDescriptor yX9_flow.desc).map (fun d => d.parameters.length) = some 1 := by decide +kernel
abbrev mX9_count : AM := (RX9, cX9_count, 2, (Option.some Jvm.ClassFile.FieldType.int), false)
theorem ydX9_count : yX9_count.cls ≠ "java/lang/invoke/MethodHandle" ∧ yX9_count.cls ≠ "java/lang/invoke/VarHandle" ∧ (parseMethodDescriptor yX9_count.desc).map (fun d => d.parameters.length) = some 1 := by decide +kernel
abbrev mX9_setting : AM := (RX9, cX9_setting, 2, (Option.some Jvm.ClassFile.FieldType.int), false)
theorem ydX9_setting : yX9_setting.cls ≠ "java/lang/invoke/MethodHandle" ∧ yX9_setting.cls ≠ "java/lang/invoke/VarHandle" ∧ (parseMethodDescriptor yX9_setting.desc).map (fun d => d.parameters.length) = some 1 := by decide +kernel
abbrev mX9_ifRight : AM := (RX9, cX9_ifRight, 2, (Option.some Jvm.ClassFile.FieldType.int), false)
theorem ydX9_ifRight : yX9_ifRight.cls ≠ "java/lang/invoke/MethodHandle" ∧ yX9_ifRight.cls ≠ "java/lang/invoke/VarHandle" ∧ (parseMethodDescriptor yX9_ifRight.desc).map (fun d => d.parameters.length) = some 1 := by decide +kernel
abbrev mX9_worst : AM := (RX9, cX9_worst, 1, (Option.some Jvm.ClassFile.FieldType.int), false)
theorem ydX9_worst : yX9_worst.cls ≠ "java/lang/invoke/MethodHandle" ∧ yX9_worst.cls ≠ "java/lang/invoke/VarHandle" ∧ (parseMethodDescriptor yX9_worst.desc).map (fun d => d.parameters.length) = some 0 := by decide +kernel
abbrev mX9_ifRake : AM := (RX9, cX9_ifRake, 2, (Option.some Jvm.ClassFile.FieldType.int), false)
theorem ydX9_ifRake : yX9_ifRake.cls ≠ "java/lang/invoke/MethodHandle" ∧ yX9_ifRake.cls ≠ "java/lang/invoke/VarHandle" ∧ (parseMethodDescriptor yX9_ifRake.desc).map (fun d => d.parameters.length) = some 1 := by decide +kernel
abbrev mX9_fineRake : AM := (RX9, cX9_fineRake, 2, (Option.some Jvm.ClassFile.FieldType.int), false)
theorem ydX9_fineRake : yX9_fineRake.cls ≠ "java/lang/invoke/MethodHandle" ∧ yX9_fineRake.cls ≠ "java/lang/invoke/VarHandle" ∧ (parseMethodDescriptor yX9_fineRake.desc).map (fun d => d.parameters.length) = some 1 := by decide +kernel
abbrev mX9_evenness : AM := (RX9, cX9_evenness, 1, (Option.some Jvm.ClassFile.FieldType.double), false)
theorem ydX9_evenness : yX9_evenness.cls ≠ "java/lang/invoke/MethodHandle" ∧ yX9_evenness.cls ≠ "java/lang/invoke/VarHandle" ∧ (parseMethodDescriptor yX9_evenness.desc).map (fun d => d.parameters.length) = some 0 := by decide +kernel
abbrev mX9_digest : AM := (RX9, cX9_digest, 4, (Option.some Jvm.ClassFile.FieldType.long), false)
theorem ydX9_digest : yX9_digest.cls ≠ "java/lang/invoke/MethodHandle" ∧ yX9_digest.cls ≠ "java/lang/invoke/VarHandle" ∧ (parseMethodDescriptor yX9_digest.desc).map (fun d => d.parameters.length) = some 0 := by decide +kernel
abbrev mX9_isNoRake : AM := (RX9, cX9_isNoRake, 1, (Option.some Jvm.ClassFile.FieldType.boolean), false)
theorem ydX9_isNoRake : yX9_isNoRake.cls ≠ "java/lang/invoke/MethodHandle" ∧ yX9_isNoRake.cls ≠ "java/lang/invoke/VarHandle" ∧ (parseMethodDescriptor yX9_isNoRake.desc).map (fun d => d.parameters.length) = some 1 := by decide +kernel
abbrev mX9_isNoSetting : AM := (RX9, cX9_isNoSetting, 1, (Option.some Jvm.ClassFile.FieldType.boolean), false)
theorem ydX9_isNoSetting : yX9_isNoSetting.cls ≠ "java/lang/invoke/MethodHandle" ∧ yX9_isNoSetting.cls ≠ "java/lang/invoke/VarHandle" ∧ (parseMethodDescriptor yX9_isNoSetting.desc).map (fun d => d.parameters.length) = some 1 := by decide +kernel
abbrev mX9_isNoSlot : AM := (RX9, cX9_isNoSlot, 1, (Option.some Jvm.ClassFile.FieldType.boolean), false)
theorem ydX9_isNoSlot : yX9_isNoSlot.cls ≠ "java/lang/invoke/MethodHandle" ∧ yX9_isNoSlot.cls ≠ "java/lang/invoke/VarHandle" ∧ (parseMethodDescriptor yX9_isNoSlot.desc).map (fun d => d.parameters.length) = some 1 := by decide +kernel
abbrev mX9_isNoHole : AM := (RX9, cX9_isNoHole, 2, (Option.some Jvm.ClassFile.FieldType.boolean), false)
theorem ydX9_isNoHole : yX9_isNoHole.cls ≠ "java/lang/invoke/MethodHandle" ∧ yX9_isNoHole.cls ≠ "java/lang/invoke/VarHandle" ∧ (parseMethodDescriptor yX9_isNoHole.desc).map (fun d => d.parameters.length) = some 1 := by decide +kernel
abbrev mX9_isNoReading : AM := (RX9, cX9_isNoReading, 2, (Option.some Jvm.ClassFile.FieldType.boolean), false)
theorem ydX9_isNoReading : yX9_isNoReading.cls ≠ "java/lang/invoke/MethodHandle" ∧ yX9_isNoReading.cls ≠ "java/lang/invoke/VarHandle" ∧ (parseMethodDescriptor yX9_isNoReading.desc).map (fun d => d.parameters.length) = some 1 := by decide +kernel
abbrev mX9_slotOf : AM := (RX9, cX9_slotOf, 2, (Option.some (Jvm.ClassFile.FieldType.object "DuctRake$Slot")), false)
theorem ydX9_slotOf : yX9_slotOf.cls ≠ "java/lang/invoke/MethodHandle" ∧ yX9_slotOf.cls ≠ "java/lang/invoke/VarHandle" ∧ (parseMethodDescriptor yX9_slotOf.desc).map (fun d => d.parameters.length) = some 1 := by decide +kernel
abbrev mX9_holeValue : AM := (RX9, cX9_holeValue, 4, (Option.some Jvm.ClassFile.FieldType.int), false)
theorem ydX9_holeValue : yX9_holeValue.cls ≠ "java/lang/invoke/MethodHandle" ∧ yX9_holeValue.cls ≠ "java/lang/invoke/VarHandle" ∧ (parseMethodDescriptor yX9_holeValue.desc).map (fun d => d.parameters.length) = some 3 := by decide +kernel
abbrev mX9_readingValue : AM := (RX9, cX9_readingValue, 4, (Option.some Jvm.ClassFile.FieldType.int), false)
theorem ydX9_readingValue : yX9_readingValue.cls ≠ "java/lang/invoke/MethodHandle" ∧ yX9_readingValue.cls ≠ "java/lang/invoke/VarHandle" ∧ (parseMethodDescriptor yX9_readingValue.desc).map (fun d => d.parameters.length) = some 2 := by decide +kernel
abbrev mX9_flowValue : AM := (RX9, cX9_flowValue, 4, (Option.some Jvm.ClassFile.FieldType.int), false)
theorem ydX9_flowValue : yX9_flowValue.cls ≠ "java/lang/invoke/MethodHandle" ∧ yX9_flowValue.cls ≠ "java/lang/invoke/VarHandle" ∧ (parseMethodDescriptor yX9_flowValue.desc).map (fun d => d.parameters.length) = some 2 := by decide +kernel
abbrev mX9_countValue : AM := (RX9, cX9_countValue, 3, (Option.some Jvm.ClassFile.FieldType.int), false)
theorem ydX9_countValue : yX9_countValue.cls ≠ "java/lang/invoke/MethodHandle" ∧ yX9_countValue.cls ≠ "java/lang/invoke/VarHandle" ∧ (parseMethodDescriptor yX9_countValue.desc).map (fun d => d.parameters.length) = some 2 := by decide +kernel
abbrev mX9_wholeIfRight : AM := (RX9, cX9_wholeIfRight, 2, (Option.some Jvm.ClassFile.FieldType.int), false)
theorem ydX9_wholeIfRight : yX9_wholeIfRight.cls ≠ "java/lang/invoke/MethodHandle" ∧ yX9_wholeIfRight.cls ≠ "java/lang/invoke/VarHandle" ∧ (parseMethodDescriptor yX9_wholeIfRight.desc).map (fun d => d.parameters.length) = some 1 := by decide +kernel
abbrev mX9_worstHole : AM := (RX9, cX9_worstHole, 8, (Option.some Jvm.ClassFile.FieldType.int), false)
theorem ydX9_worstHole : yX9_worstHole.cls ≠ "java/lang/invoke/MethodHandle" ∧ yX9_worstHole.cls ≠ "java/lang/invoke/VarHandle" ∧ (parseMethodDescriptor yX9_worstHole.desc).map (fun d => d.parameters.length) = some 1 := by decide +kernel
abbrev mX9_fewestHoles : AM := (RX9, cX9_fewestHoles, 4, (Option.some Jvm.ClassFile.FieldType.int), false)
theorem ydX9_fewestHoles : yX9_fewestHoles.cls ≠ "java/lang/invoke/MethodHandle" ∧ yX9_fewestHoles.cls ≠ "java/lang/invoke/VarHandle" ∧ (parseMethodDescriptor yX9_fewestHoles.desc).map (fun d => d.parameters.length) = some 1 := by decide +kernel
abbrev mX9_mixed : AM := (RX9, cX9_mixed, 4, (Option.some Jvm.ClassFile.FieldType.long), false)
theorem ydX9_mixed : yX9_mixed.cls ≠ "java/lang/invoke/MethodHandle" ∧ yX9_mixed.cls ≠ "java/lang/invoke/VarHandle" ∧ (parseMethodDescriptor yX9_mixed.desc).map (fun d => d.parameters.length) = some 2 := by decide +kernel
abbrev mX9_mixedWithHoles : AM := (RX9, cX9_mixedWithHoles, 8, (Option.some Jvm.ClassFile.FieldType.long), false)
theorem ydX9_mixedWithHoles : yX9_mixedWithHoles.cls ≠ "java/lang/invoke/MethodHandle" ∧ yX9_mixedWithHoles.cls ≠ "java/lang/invoke/VarHandle" ∧ (parseMethodDescriptor yX9_mixedWithHoles.desc).map (fun d => d.parameters.length) = some 2 := by decide +kernel
abbrev mX9_mixedWithReadings : AM := (RX9, cX9_mixedWithReadings, 7, (Option.some Jvm.ClassFile.FieldType.long), false)
theorem ydX9_mixedWithReadings : yX9_mixedWithReadings.cls ≠ "java/lang/invoke/MethodHandle" ∧ yX9_mixedWithReadings.cls ≠ "java/lang/invoke/VarHandle" ∧ (parseMethodDescriptor yX9_mixedWithReadings.desc).map (fun d => d.parameters.length) = some 1 := by decide +kernel
abbrev mX9_mixedWithBuffer : AM := (RX9, cX9_mixedWithBuffer, 6, (Option.some Jvm.ClassFile.FieldType.long), false)
theorem ydX9_mixedWithBuffer : yX9_mixedWithBuffer.cls ≠ "java/lang/invoke/MethodHandle" ∧ yX9_mixedWithBuffer.cls ≠ "java/lang/invoke/VarHandle" ∧ (parseMethodDescriptor yX9_mixedWithBuffer.desc).map (fun d => d.parameters.length) = some 1 := by decide +kernel
abbrev mX10_init : AM := (RX10, cX10_init, 1, (Option.none : Option Jvm.ClassFile.FieldType), true)
theorem ydX10_init : yX10_init.cls ≠ "java/lang/invoke/MethodHandle" ∧ yX10_init.cls ≠ "java/lang/invoke/VarHandle" ∧ (parseMethodDescriptor yX10_init.desc).map (fun d => d.parameters.length) = some 0 := by decide +kernel
abbrev mX10_thrown : AM := (RX10, cX10_thrown, 1, (Option.some Jvm.ClassFile.FieldType.int), false)
theorem ydX10_thrown : yX10_thrown.cls ≠ "java/lang/invoke/MethodHandle" ∧ yX10_thrown.cls ≠ "java/lang/invoke/VarHandle" ∧ (parseMethodDescriptor yX10_thrown.desc).map (fun d => d.parameters.length) = some 0 := by decide +kernel
abbrev mX10_in : AM := (RX10, cX10_in, 3, (Option.some Jvm.ClassFile.FieldType.boolean), false)
theorem ydX10_in : yX10_in.cls ≠ "java/lang/invoke/MethodHandle" ∧ yX10_in.cls ≠ "java/lang/invoke/VarHandle" ∧ (parseMethodDescriptor yX10_in.desc).map (fun d => d.parameters.length) = some 3 := by decide +kernel
abbrev mX10_fails : AM := (RX10, cX10_fails, 2, (Option.some Jvm.ClassFile.FieldType.int), false)
theorem ydX10_fails : yX10_fails.cls ≠ "java/lang/invoke/MethodHandle" ∧ yX10_fails.cls ≠ "java/lang/invoke/VarHandle" ∧ (parseMethodDescriptor yX10_fails.desc).map (fun d => d.parameters.length) = some 1 := by decide +kernel
abbrev mX10_of : AM := (RX10, cX10_of, 3, (Option.some Jvm.ClassFile.FieldType.int), false)
theorem ydX10_of : yX10_of.cls ≠ "java/lang/invoke/MethodHandle" ∧ yX10_of.cls ≠ "java/lang/invoke/VarHandle" ∧ (parseMethodDescriptor yX10_of.desc).map (fun d => d.parameters.length) = some 2 := by decide +kernel
abbrev mX10_lay : AM := (RX10, cX10_lay, 4, (Option.none : Option Jvm.ClassFile.FieldType), false)
theorem ydX10_lay : yX10_lay.cls ≠ "java/lang/invoke/MethodHandle" ∧ yX10_lay.cls ≠ "java/lang/invoke/VarHandle" ∧ (parseMethodDescriptor yX10_lay.desc).map (fun d => d.parameters.length) = some 3 := by decide +kernel
abbrev mX10_ofReading : AM := (RX10, cX10_ofReading, 3, (Option.some Jvm.ClassFile.FieldType.int), false)
theorem ydX10_ofReading : yX10_ofReading.cls ≠ "java/lang/invoke/MethodHandle" ∧ yX10_ofReading.cls ≠ "java/lang/invoke/VarHandle" ∧ (parseMethodDescriptor yX10_ofReading.desc).map (fun d => d.parameters.length) = some 2 := by decide +kernel
abbrev mX10_isHole : AM := (RX10, cX10_isHole, 2, (Option.some Jvm.ClassFile.FieldType.boolean), false)
theorem ydX10_isHole : yX10_isHole.cls ≠ "java/lang/invoke/MethodHandle" ∧ yX10_isHole.cls ≠ "java/lang/invoke/VarHandle" ∧ (parseMethodDescriptor yX10_isHole.desc).map (fun d => d.parameters.length) = some 1 := by decide +kernel
abbrev mX10_clearsHoles : AM := (RX10, cX10_clearsHoles, 2, (Option.none : Option Jvm.ClassFile.FieldType), false)
theorem ydX10_clearsHoles : yX10_clearsHoles.cls ≠ "java/lang/invoke/MethodHandle" ∧ yX10_clearsHoles.cls ≠ "java/lang/invoke/VarHandle" ∧ (parseMethodDescriptor yX10_clearsHoles.desc).map (fun d => d.parameters.length) = some 0 := by decide +kernel
abbrev mX10_saves : AM := (RX10, cX10_saves, 2, (Option.none : Option Jvm.ClassFile.FieldType), false)
theorem ydX10_saves : yX10_saves.cls ≠ "java/lang/invoke/MethodHandle" ∧ yX10_saves.cls ≠ "java/lang/invoke/VarHandle" ∧ (parseMethodDescriptor yX10_saves.desc).map (fun d => d.parameters.length) = some 0 := by decide +kernel
abbrev mX10_root : AM := (RX10, cX10_root, 5, (Option.some Jvm.ClassFile.FieldType.int), false)
theorem ydX10_root : yX10_root.cls ≠ "java/lang/invoke/MethodHandle" ∧ yX10_root.cls ≠ "java/lang/invoke/VarHandle" ∧ (parseMethodDescriptor yX10_root.desc).map (fun d => d.parameters.length) = some 1 := by decide +kernel
abbrev mX10_distance : AM := (RX10, cX10_distance, 3, (Option.some Jvm.ClassFile.FieldType.int), false)
theorem ydX10_distance : yX10_distance.cls ≠ "java/lang/invoke/MethodHandle" ∧ yX10_distance.cls ≠ "java/lang/invoke/VarHandle" ∧ (parseMethodDescriptor yX10_distance.desc).map (fun d => d.parameters.length) = some 2 := by decide +kernel
abbrev mX10_trueSpeed : AM := (RX10, cX10_trueSpeed, 4, (Option.some Jvm.ClassFile.FieldType.int), false)
theorem ydX10_trueSpeed : yX10_trueSpeed.cls ≠ "java/lang/invoke/MethodHandle" ∧ yX10_trueSpeed.cls ≠ "java/lang/invoke/VarHandle" ∧ (parseMethodDescriptor yX10_trueSpeed.desc).map (fun d => d.parameters.length) = some 2 := by decide +kernel
abbrev mX10_trueHead : AM := (RX10, cX10_trueHead, 3, (Option.some Jvm.ClassFile.FieldType.int), false)
theorem ydX10_trueHead : yX10_trueHead.cls ≠ "java/lang/invoke/MethodHandle" ∧ yX10_trueHead.cls ≠ "java/lang/invoke/VarHandle" ∧ (parseMethodDescriptor yX10_trueHead.desc).map (fun d => d.parameters.length) = some 1 := by decide +kernel
abbrev mX10_felt : AM := (RX10, cX10_felt, 3, (Option.some Jvm.ClassFile.FieldType.int), false)
theorem ydX10_felt : yX10_felt.cls ≠ "java/lang/invoke/MethodHandle" ∧ yX10_felt.cls ≠ "java/lang/invoke/VarHandle" ∧ (parseMethodDescriptor yX10_felt.desc).map (fun d => d.parameters.length) = some 1 := by decide +kernel
abbrev mX10_ringFlow : AM := (RX10, cX10_ringFlow, 3, (Option.some Jvm.ClassFile.FieldType.int), false)
theorem ydX10_ringFlow : yX10_ringFlow.cls ≠ "java/lang/invoke/MethodHandle" ∧ yX10_ringFlow.cls ≠ "java/lang/invoke/VarHandle" ∧ (parseMethodDescriptor yX10_ringFlow.desc).map (fun d => d.parameters.length) = some 2 := by decide +kernel
abbrev mX10_trueFlow : AM := (RX10, cX10_trueFlow, 4, (Option.some Jvm.ClassFile.FieldType.int), false)
theorem ydX10_trueFlow : yX10_trueFlow.cls ≠ "java/lang/invoke/MethodHandle" ∧ yX10_trueFlow.cls ≠ "java/lang/invoke/VarHandle" ∧ (parseMethodDescriptor yX10_trueFlow.desc).map (fun d => d.parameters.length) = some 1 := by decide +kernel
abbrev mX10_counts : AM := (RX10, cX10_counts, 2, (Option.some Jvm.ClassFile.FieldType.boolean), false)
theorem ydX10_counts : yX10_counts.cls ≠ "java/lang/invoke/MethodHandle" ∧ yX10_counts.cls ≠ "java/lang/invoke/VarHandle" ∧ (parseMethodDescriptor yX10_counts.desc).map (fun d => d.parameters.length) = some 1 := by decide +kernel
abbrev mX10_laysMeans : AM := (RX10, cX10_laysMeans, 3, (Option.none : Option Jvm.ClassFile.FieldType), false)
theorem ydX10_laysMeans : yX10_laysMeans.cls ≠ "java/lang/invoke/MethodHandle" ∧ yX10_laysMeans.cls ≠ "java/lang/invoke/VarHandle" ∧ (parseMethodDescriptor yX10_laysMeans.desc).map (fun d => d.parameters.length) = some 0 := by decide +kernel
abbrev mX10_reason : AM := (RX10, cX10_reason, 4, (Option.some Jvm.ClassFile.FieldType.int), false)
theorem ydX10_reason : yX10_reason.cls ≠ "java/lang/invoke/MethodHandle" ∧ yX10_reason.cls ≠ "java/lang/invoke/VarHandle" ∧ (parseMethodDescriptor yX10_reason.desc).map (fun d => d.parameters.length) = some 3 := by decide +kernel
abbrev mX10_nearest : AM := (RX10, cX10_nearest, 4, (Option.some Jvm.ClassFile.FieldType.int), false)
theorem ydX10_nearest : yX10_nearest.cls ≠ "java/lang/invoke/MethodHandle" ∧ yX10_nearest.cls ≠ "java/lang/invoke/VarHandle" ∧ (parseMethodDescriptor yX10_nearest.desc).map (fun d => d.parameters.length) = some 2 := by decide +kernel
abbrev mX10_mended : AM := (RX10, cX10_mended, 4, (Option.some Jvm.ClassFile.FieldType.int), false)
theorem ydX10_mended : yX10_mended.cls ≠ "java/lang/invoke/MethodHandle" ∧ yX10_mended.cls ≠ "java/lang/invoke/VarHandle" ∧ (parseMethodDescriptor yX10_mended.desc).map (fun d => d.parameters.length) = some 1 := by decide +kernel
abbrev mX10_laysTold : AM := (RX10, cX10_laysTold, 4, (Option.none : Option Jvm.ClassFile.FieldType), false)
theorem ydX10_laysTold : yX10_laysTold.cls ≠ "java/lang/invoke/MethodHandle" ∧ yX10_laysTold.cls ≠ "java/lang/invoke/VarHandle" ∧ (parseMethodDescriptor yX10_laysTold.desc).map (fun d => d.parameters.length) = some 1 := by decide +kernel
abbrev mX10_laysAll : AM := (RX10, cX10_laysAll, 1, (Option.none : Option Jvm.ClassFile.FieldType), false)
theorem ydX10_laysAll : yX10_laysAll.cls ≠ "java/lang/invoke/MethodHandle" ∧ yX10_laysAll.cls ≠ "java/lang/invoke/VarHandle" ∧ (parseMethodDescriptor yX10_laysAll.desc).map (fun d => d.parameters.length) = some 0 := by decide +kernel
abbrev mX10_flowOf : AM := (RX10, cX10_flowOf, 5, (Option.some Jvm.ClassFile.FieldType.int), false)
theorem ydX10_flowOf : yX10_flowOf.cls ≠ "java/lang/invoke/MethodHandle" ∧ yX10_flowOf.cls ≠ "java/lang/invoke/VarHandle" ∧ (parseMethodDescriptor yX10_flowOf.desc).map (fun d => d.parameters.length) = some 2 := by decide +kernel
abbrev mX10_holeWork : AM := (RX10, cX10_holeWork, 3, (Option.some Jvm.ClassFile.FieldType.int), false)
theorem ydX10_holeWork : yX10_holeWork.cls ≠ "java/lang/invoke/MethodHandle" ∧ yX10_holeWork.cls ≠ "java/lang/invoke/VarHandle" ∧ (parseMethodDescriptor yX10_holeWork.desc).map (fun d => d.parameters.length) = some 0 := by decide +kernel
abbrev mX10_rake : AM := (RX10, cX10_rake, 3, (Option.some Jvm.ClassFile.FieldType.int), false)
theorem ydX10_rake : yX10_rake.cls ≠ "java/lang/invoke/MethodHandle" ∧ yX10_rake.cls ≠ "java/lang/invoke/VarHandle" ∧ (parseMethodDescriptor yX10_rake.desc).map (fun d => d.parameters.length) = some 1 := by decide +kernel
abbrev mX10_radius : AM := (RX10, cX10_radius, 3, (Option.some Jvm.ClassFile.FieldType.int), false)
theorem ydX10_radius : yX10_radius.cls ≠ "java/lang/invoke/MethodHandle" ∧ yX10_radius.cls ≠ "java/lang/invoke/VarHandle" ∧ (parseMethodDescriptor yX10_radius.desc).map (fun d => d.parameters.length) = some 1 := by decide +kernel
abbrev mX10_changes : AM := (RX10, cX10_changes, 5, (Option.some Jvm.ClassFile.FieldType.int), false)
theorem ydX10_changes : yX10_changes.cls ≠ "java/lang/invoke/MethodHandle" ∧ yX10_changes.cls ≠ "java/lang/invoke/VarHandle" ∧ (parseMethodDescriptor yX10_changes.desc).map (fun d => d.parameters.length) = some 3 := by decide +kernel
abbrev mX10_block : AM := (RX10, cX10_block, 3, (Option.some Jvm.ClassFile.FieldType.int), false)
theorem ydX10_block : yX10_block.cls ≠ "java/lang/invoke/MethodHandle" ∧ yX10_block.cls ≠ "java/lang/invoke/VarHandle" ∧ (parseMethodDescriptor yX10_block.desc).map (fun d => d.parameters.length) = some 2 := by decide +kernel
abbrev mX10_leak : AM := (RX10, cX10_leak, 3, (Option.some Jvm.ClassFile.FieldType.int), false)
theorem ydX10_leak : yX10_leak.cls ≠ "java/lang/invoke/MethodHandle" ∧ yX10_leak.cls ≠ "java/lang/invoke/VarHandle" ∧ (parseMethodDescriptor yX10_leak.desc).map (fun d => d.parameters.length) = some 2 := by decide +kernel
abbrev mX10_clean : AM := (RX10, cX10_clean, 3, (Option.some Jvm.ClassFile.FieldType.int), false)
theorem ydX10_clean : yX10_clean.cls ≠ "java/lang/invoke/MethodHandle" ∧ yX10_clean.cls ≠ "java/lang/invoke/VarHandle" ∧ (parseMethodDescriptor yX10_clean.desc).map (fun d => d.parameters.length) = some 1 := by decide +kernel
abbrev mX10_test : AM := (RX10, cX10_test, 3, (Option.some Jvm.ClassFile.FieldType.int), false)
theorem ydX10_test : yX10_test.cls ≠ "java/lang/invoke/MethodHandle" ∧ yX10_test.cls ≠ "java/lang/invoke/VarHandle" ∧ (parseMethodDescriptor yX10_test.desc).map (fun d => d.parameters.length) = some 1 := by decide +kernel
abbrev mX10_drops : AM := (RX10, cX10_drops, 3, (Option.none : Option Jvm.ClassFile.FieldType), false)
theorem ydX10_drops : yX10_drops.cls ≠ "java/lang/invoke/MethodHandle" ∧ yX10_drops.cls ≠ "java/lang/invoke/VarHandle" ∧ (parseMethodDescriptor yX10_drops.desc).map (fun d => d.parameters.length) = some 1 := by decide +kernel
abbrev mX10_comes : AM := (RX10, cX10_comes, 3, (Option.some Jvm.ClassFile.FieldType.int), false)
theorem ydX10_comes : yX10_comes.cls ≠ "java/lang/invoke/MethodHandle" ∧ yX10_comes.cls ≠ "java/lang/invoke/VarHandle" ∧ (parseMethodDescriptor yX10_comes.desc).map (fun d => d.parameters.length) = some 1 := by decide +kernel
abbrev mX10_read : AM := (RX10, cX10_read, 3, (Option.some Jvm.ClassFile.FieldType.int), false)
theorem ydX10_read : yX10_read.cls ≠ "java/lang/invoke/MethodHandle" ∧ yX10_read.cls ≠ "java/lang/invoke/VarHandle" ∧ (parseMethodDescriptor yX10_read.desc).map (fun d => d.parameters.length) = some 0 := by decide +kernel
abbrev mX10_drop : AM := (RX10, cX10_drop, 2, (Option.some Jvm.ClassFile.FieldType.int), false)
theorem ydX10_drop : yX10_drop.cls ≠ "java/lang/invoke/MethodHandle" ∧ yX10_drop.cls ≠ "java/lang/invoke/VarHandle" ∧ (parseMethodDescriptor yX10_drop.desc).map (fun d => d.parameters.length) = some 1 := by decide +kernel
abbrev mX10_isSetting : AM := (RX10, cX10_isSetting, 2, (Option.some Jvm.ClassFile.FieldType.boolean), false)
theorem ydX10_isSetting : yX10_isSetting.cls ≠ "java/lang/invoke/MethodHandle" ∧ yX10_isSetting.cls ≠ "java/lang/invoke/VarHandle" ∧ (parseMethodDescriptor yX10_isSetting.desc).map (fun d => d.parameters.length) = some 2 := by decide +kernel
abbrev mX10_set : AM := (RX10, cX10_set, 4, (Option.some Jvm.ClassFile.FieldType.int), false)
theorem ydX10_set : yX10_set.cls ≠ "java/lang/invoke/MethodHandle" ∧ yX10_set.cls ≠ "java/lang/invoke/VarHandle" ∧ (parseMethodDescriptor yX10_set.desc).map (fun d => d.parameters.length) = some 2 := by decide +kernel
abbrev mX10_append : AM := (RX10, cX10_append, 2, (Option.some Jvm.ClassFile.FieldType.int), false)
theorem ydX10_append : yX10_append.cls ≠ "java/lang/invoke/MethodHandle" ∧ yX10_append.cls ≠ "java/lang/invoke/VarHandle" ∧ (parseMethodDescriptor yX10_append.desc).map (fun d => d.parameters.length) = some 1 := by decide +kernel
abbrev mX10_clearBuffer : AM := (RX10, cX10_clearBuffer, 2, (Option.some Jvm.ClassFile.FieldType.int), false)
theorem ydX10_clearBuffer : yX10_clearBuffer.cls ≠ "java/lang/invoke/MethodHandle" ∧ yX10_clearBuffer.cls ≠ "java/lang/invoke/VarHandle" ∧ (parseMethodDescriptor yX10_clearBuffer.desc).map (fun d => d.parameters.length) = some 0 := by decide +kernel
abbrev mX10_sign : AM := (RX10, cX10_sign, 1, (Option.some Jvm.ClassFile.FieldType.int), false)
theorem ydX10_sign : yX10_sign.cls ≠ "java/lang/invoke/MethodHandle" ∧ yX10_sign.cls ≠ "java/lang/invoke/VarHandle" ∧ (parseMethodDescriptor yX10_sign.desc).map (fun d => d.parameters.length) = some 0 := by decide +kernel
abbrev mX10_readsHead : AM := (RX10, cX10_readsHead, 2, (Option.none : Option Jvm.ClassFile.FieldType), false)
theorem ydX10_readsHead : yX10_readsHead.cls ≠ "java/lang/invoke/MethodHandle" ∧ yX10_readsHead.cls ≠ "java/lang/invoke/VarHandle" ∧ (parseMethodDescriptor yX10_readsHead.desc).map (fun d => d.parameters.length) = some 0 := by decide +kernel
abbrev mX10_readsAll : AM := (RX10, cX10_readsAll, 1, (Option.none : Option Jvm.ClassFile.FieldType), false)
theorem ydX10_readsAll : yX10_readsAll.cls ≠ "java/lang/invoke/MethodHandle" ∧ yX10_readsAll.cls ≠ "java/lang/invoke/VarHandle" ∧ (parseMethodDescriptor yX10_readsAll.desc).map (fun d => d.parameters.length) = some 0 := by decide +kernel
abbrev mX10_firstError : AM := (RX10, cX10_firstError, 1, (Option.some Jvm.ClassFile.FieldType.int), false)
theorem ydX10_firstError : yX10_firstError.cls ≠ "java/lang/invoke/MethodHandle" ∧ yX10_firstError.cls ≠ "java/lang/invoke/VarHandle" ∧ (parseMethodDescriptor yX10_firstError.desc).map (fun d => d.parameters.length) = some 0 := by decide +kernel
abbrev mX10_load : AM := (RX10, cX10_load, 3, (Option.some Jvm.ClassFile.FieldType.int), false)
theorem ydX10_load : yX10_load.cls ≠ "java/lang/invoke/MethodHandle" ∧ yX10_load.cls ≠ "java/lang/invoke/VarHandle" ∧ (parseMethodDescriptor yX10_load.desc).map (fun d => d.parameters.length) = some 0 := by decide +kernel
abbrev mX10_keep : AM := (RX10, cX10_keep, 3, (Option.some Jvm.ClassFile.FieldType.int), false)
theorem ydX10_keep : yX10_keep.cls ≠ "java/lang/invoke/MethodHandle" ∧ yX10_keep.cls ≠ "java/lang/invoke/VarHandle" ∧ (parseMethodDescriptor yX10_keep.desc).map (fun d => d.parameters.length) = some 1 := by decide +kernel
abbrev mX10_goBack : AM := (RX10, cX10_goBack, 3, (Option.some Jvm.ClassFile.FieldType.int), false)
theorem ydX10_goBack : yX10_goBack.cls ≠ "java/lang/invoke/MethodHandle" ∧ yX10_goBack.cls ≠ "java/lang/invoke/VarHandle" ∧ (parseMethodDescriptor yX10_goBack.desc).map (fun d => d.parameters.length) = some 1 := by decide +kernel
abbrev mX10_undo : AM := (RX10, cX10_undo, 2, (Option.some Jvm.ClassFile.FieldType.int), false)
theorem ydX10_undo : yX10_undo.cls ≠ "java/lang/invoke/MethodHandle" ∧ yX10_undo.cls ≠ "java/lang/invoke/VarHandle" ∧ (parseMethodDescriptor yX10_undo.desc).map (fun d => d.parameters.length) = some 0 := by decide +kernel
abbrev mX10_tellsHole : AM := (RX10, cX10_tellsHole, 3, (Option.some Jvm.ClassFile.FieldType.int), false)
theorem ydX10_tellsHole : yX10_tellsHole.cls ≠ "java/lang/invoke/MethodHandle" ∧ yX10_tellsHole.cls ≠ "java/lang/invoke/VarHandle" ∧ (parseMethodDescriptor yX10_tellsHole.desc).map (fun d => d.parameters.length) = some 2 := by decide +kernel
abbrev mX10_hole : AM := (RX10, cX10_hole, 3, (Option.some Jvm.ClassFile.FieldType.int), false)
theorem ydX10_hole : yX10_hole.cls ≠ "java/lang/invoke/MethodHandle" ∧ yX10_hole.cls ≠ "java/lang/invoke/VarHandle" ∧ (parseMethodDescriptor yX10_hole.desc).map (fun d => d.parameters.length) = some 2 := by decide +kernel
abbrev mX10_tellsReading : AM := (RX10, cX10_tellsReading, 3, (Option.some Jvm.ClassFile.FieldType.int), false)
theorem ydX10_tellsReading : yX10_tellsReading.cls ≠ "java/lang/invoke/MethodHandle" ∧ yX10_tellsReading.cls ≠ "java/lang/invoke/VarHandle" ∧ (parseMethodDescriptor yX10_tellsReading.desc).map (fun d => d.parameters.length) = some 2 := by decide +kernel
abbrev mX10_reading : AM := (RX10, cX10_reading, 3, (Option.some Jvm.ClassFile.FieldType.int), false)
theorem ydX10_reading : yX10_reading.cls ≠ "java/lang/invoke/MethodHandle" ∧ yX10_reading.cls ≠ "java/lang/invoke/VarHandle" ∧ (parseMethodDescriptor yX10_reading.desc).map (fun d => d.parameters.length) = some 2 := by decide +kernel
abbrev mX10_tellsFlow : AM := (RX10, cX10_tellsFlow, 2, (Option.some Jvm.ClassFile.FieldType.int), false)
theorem ydX10_tellsFlow : yX10_tellsFlow.cls ≠ "java/lang/invoke/MethodHandle" ∧ yX10_tellsFlow.cls ≠ "java/lang/invoke/VarHandle" ∧ (parseMethodDescriptor yX10_tellsFlow.desc).map (fun d => d.parameters.length) = some 1 := by decide +kernel
abbrev mX10_flow : AM := (RX10, cX10_flow, 2, (Option.some Jvm.ClassFile.FieldType.int), false)
theorem ydX10_flow : yX10_flow.cls ≠ "java/lang/invoke/MethodHandle" ∧ yX10_flow.cls ≠ "java/lang/invoke/VarHandle" ∧ (parseMethodDescriptor yX10_flow.desc).map (fun d => d.parameters.length) = some 1 := by decide +kernel
abbrev mX10_holesFor : AM := (RX10, cX10_holesFor, 4, (Option.some Jvm.ClassFile.FieldType.int), false)
theorem ydX10_holesFor : yX10_holesFor.cls ≠ "java/lang/invoke/MethodHandle" ∧ yX10_holesFor.cls ≠ "java/lang/invoke/VarHandle" ∧ (parseMethodDescriptor yX10_holesFor.desc).map (fun d => d.parameters.length) = some 1 := by decide +kernel
abbrev mX10_tellsCount : AM := (RX10, cX10_tellsCount, 2, (Option.some Jvm.ClassFile.FieldType.int), false)
theorem ydX10_tellsCount : yX10_tellsCount.cls ≠ "java/lang/invoke/MethodHandle" ∧ yX10_tellsCount.cls ≠ "java/lang/invoke/VarHandle" ∧ (parseMethodDescriptor yX10_tellsCount.desc).map (fun d => d.parameters.length) = some 1 := by decide +kernel
abbrev mX10_count : AM := (RX10, cX10_count, 2, (Option.some Jvm.ClassFile.FieldType.int), false)
theorem ydX10_count : yX10_count.cls ≠ "java/lang/invoke/MethodHandle" ∧ yX10_count.cls ≠ "java/lang/invoke/VarHandle" ∧ (parseMethodDescriptor yX10_count.desc).map (fun d => d.parameters.length) = some 1 := by decide +kernel
abbrev mX10_setting : AM := (RX10, cX10_setting, 2, (Option.some Jvm.ClassFile.FieldType.int), false)
theorem ydX10_setting : yX10_setting.cls ≠ "java/lang/invoke/MethodHandle" ∧ yX10_setting.cls ≠ "java/lang/invoke/VarHandle" ∧ (parseMethodDescriptor yX10_setting.desc).map (fun d => d.parameters.length) = some 1 := by decide +kernel
abbrev mX10_wholeIfRight : AM := (RX10, cX10_wholeIfRight, 2, (Option.some Jvm.ClassFile.FieldType.int), false)
theorem ydX10_wholeIfRight : yX10_wholeIfRight.cls ≠ "java/lang/invoke/MethodHandle" ∧ yX10_wholeIfRight.cls ≠ "java/lang/invoke/VarHandle" ∧ (parseMethodDescriptor yX10_wholeIfRight.desc).map (fun d => d.parameters.length) = some 1 := by decide +kernel
abbrev mX10_ifRight : AM := (RX10, cX10_ifRight, 2, (Option.some Jvm.ClassFile.FieldType.int), false)
theorem ydX10_ifRight : yX10_ifRight.cls ≠ "java/lang/invoke/MethodHandle" ∧ yX10_ifRight.cls ≠ "java/lang/invoke/VarHandle" ∧ (parseMethodDescriptor yX10_ifRight.desc).map (fun d => d.parameters.length) = some 1 := by decide +kernel
abbrev mX10_worstOne : AM := (RX10, cX10_worstOne, 8, (Option.some Jvm.ClassFile.FieldType.int), false)
theorem ydX10_worstOne : yX10_worstOne.cls ≠ "java/lang/invoke/MethodHandle" ∧ yX10_worstOne.cls ≠ "java/lang/invoke/VarHandle" ∧ (parseMethodDescriptor yX10_worstOne.desc).map (fun d => d.parameters.length) = some 0 := by decide +kernel
abbrev mX10_worst : AM := (RX10, cX10_worst, 1, (Option.some Jvm.ClassFile.FieldType.int), false)
theorem ydX10_worst : yX10_worst.cls ≠ "java/lang/invoke/MethodHandle" ∧ yX10_worst.cls ≠ "java/lang/invoke/VarHandle" ∧ (parseMethodDescriptor yX10_worst.desc).map (fun d => d.parameters.length) = some 0 := by decide +kernel
abbrev mX10_ifRake : AM := (RX10, cX10_ifRake, 2, (Option.some Jvm.ClassFile.FieldType.int), false)
theorem ydX10_ifRake : yX10_ifRake.cls ≠ "java/lang/invoke/MethodHandle" ∧ yX10_ifRake.cls ≠ "java/lang/invoke/VarHandle" ∧ (parseMethodDescriptor yX10_ifRake.desc).map (fun d => d.parameters.length) = some 1 := by decide +kernel
abbrev mX10_fine : AM := (RX10, cX10_fine, 4, (Option.some Jvm.ClassFile.FieldType.int), false)
theorem ydX10_fine : yX10_fine.cls ≠ "java/lang/invoke/MethodHandle" ∧ yX10_fine.cls ≠ "java/lang/invoke/VarHandle" ∧ (parseMethodDescriptor yX10_fine.desc).map (fun d => d.parameters.length) = some 1 := by decide +kernel
abbrev mX10_fineRake : AM := (RX10, cX10_fineRake, 2, (Option.some Jvm.ClassFile.FieldType.int), false)
theorem ydX10_fineRake : yX10_fineRake.cls ≠ "java/lang/invoke/MethodHandle" ∧ yX10_fineRake.cls ≠ "java/lang/invoke/VarHandle" ∧ (parseMethodDescriptor yX10_fineRake.desc).map (fun d => d.parameters.length) = some 1 := by decide +kernel
abbrev mX10_even : AM := (RX10, cX10_even, 4, (Option.some Jvm.ClassFile.FieldType.double), false)
theorem ydX10_even : yX10_even.cls ≠ "java/lang/invoke/MethodHandle" ∧ yX10_even.cls ≠ "java/lang/invoke/VarHandle" ∧ (parseMethodDescriptor yX10_even.desc).map (fun d => d.parameters.length) = some 0 := by decide +kernel
abbrev mX10_evenness : AM := (RX10, cX10_evenness, 1, (Option.some Jvm.ClassFile.FieldType.double), false)
theorem ydX10_evenness : yX10_evenness.cls ≠ "java/lang/invoke/MethodHandle" ∧ yX10_evenness.cls ≠ "java/lang/invoke/VarHandle" ∧ (parseMethodDescriptor yX10_evenness.desc).map (fun d => d.parameters.length) = some 0 := by decide +kernel
abbrev mX10_hashes : AM := (RX10, cX10_hashes, 3, (Option.none : Option Jvm.ClassFile.FieldType), false)
theorem ydX10_hashes : yX10_hashes.cls ≠ "java/lang/invoke/MethodHandle" ∧ yX10_hashes.cls ≠ "java/lang/invoke/VarHandle" ∧ (parseMethodDescriptor yX10_hashes.desc).map (fun d => d.parameters.length) = some 1 := by decide +kernel
abbrev mX10_hashesHole : AM := (RX10, cX10_hashesHole, 3, (Option.none : Option Jvm.ClassFile.FieldType), false)
theorem ydX10_hashesHole : yX10_hashesHole.cls ≠ "java/lang/invoke/MethodHandle" ∧ yX10_hashesHole.cls ≠ "java/lang/invoke/VarHandle" ∧ (parseMethodDescriptor yX10_hashesHole.desc).map (fun d => d.parameters.length) = some 1 := by decide +kernel
abbrev mX10_digest : AM := (RX10, cX10_digest, 2, (Option.some Jvm.ClassFile.FieldType.long), false)
theorem ydX10_digest : yX10_digest.cls ≠ "java/lang/invoke/MethodHandle" ∧ yX10_digest.cls ≠ "java/lang/invoke/VarHandle" ∧ (parseMethodDescriptor yX10_digest.desc).map (fun d => d.parameters.length) = some 0 := by decide +kernel
theorem gc_L_81 : GoodIn aw_all (wsM yX9_init mX9_init) := good_I wc_X9_init
theorem gc_X9_9 : GoodIn aw_all (wsM yX5_init mX5_init) := good_I wc_X5_init
theorem gc_X5_44 : GoodIn aw_all (wsM yX1_init mX1_init) := good_I wc_X1_init
theorem gc_X9_18 : GoodIn aw_all (wsM yX3_init mX3_init) := good_I wc_X3_init
theorem gc_X3_17 : GoodIn aw_all (wsM yX5_init mX5_init) := good_I wc_X5_init
theorem gc_X9_25 : GoodIn aw_all (wsM yX4_init mX4_init) := good_I wc_X4_init
theorem gc_X4_9 : GoodIn aw_all (wsM yX5_init mX5_init) := good_I wc_X5_init
theorem gc_X9_35 : GoodIn aw_all (wsM yX6_init mX6_init) := good_I wc_X6_init
theorem gc_X9_42 : GoodIn aw_all (wsM yX7_init mX7_init) := good_I wc_X7_init
theorem gc_L_110 : GoodIn aw_all (wsV RL 110 RX9 yX9_read (wsM yX9_read mX9_read)) := good_V wl_L_110 wi_X9_read ws9_X9_read wn_X9 wc_X9_read
theorem gc_X9_65 : GoodIn aw_all (wsV RX9 65 RX3 yX3_push (wsM yX3_push mX3_push)) := good_V wl_X9_65 wi_X3_push ws9_X3_push wn_X3 wc_X3_push
theorem gc_X3_22 : GoodIn aw_all (wsV RX3 22 RX3 yX3_stateAt (wsM yX3_stateAt mX3_stateAt)) := good_V wl_X3_22 wi_X3_stateAt ws9_X3_stateAt wn_X3 wc_X3_stateAt
theorem gc_X3_26 : GoodIn aw_all (wsV RX3 26 RX5 yX5_become (wsM yX5_become mX5_become)) := good_V wl_X3_26 wi_X5_become ws9_X5_become wn_X5 wc_X5_become
theorem gc_X5_49 : GoodIn aw_all (va_wsS RX5 49 yX2_copy (wsM yX2_copy mX2_copy)) := good_S wl_X5_49 wt_X2_copy wn_X2 wc_X2_copy
theorem gc_X5_55 : GoodIn aw_all (wsV RX5 55 RX1 yX1_become (wsM yX1_become mX1_become)) := good_V wl_X5_55 wi_X1_become ws9_X1_become wn_X1 wc_X1_become
theorem gc_X1_21 : GoodIn aw_all (va_wsS RX1 21 yX2_copy (wsM yX2_copy mX2_copy)) := good_S wl_X1_21 wt_X2_copy wn_X2 wc_X2_copy
theorem gc_X9_127 : GoodIn aw_all (va_wsS RX9 127 yX8_headAt (wsM yX8_headAt mX8_headAt)) := good_S wl_X9_127 wt_X8_headAt wn_X8 wc_X8_headAt
theorem gc_X8_44 : GoodIn aw_all (va_wsS RX8 44 yX8_speedAt (wsM yX8_speedAt mX8_speedAt)) := good_S wl_X8_44 wt_X8_speedAt wn_X8 wc_X8_speedAt
theorem gc_X8_25 : GoodIn aw_all (va_wsS RX8 25 yX8_distance (wsM yX8_distance mX8_distance)) := good_S wl_X8_25 wt_X8_distance wn_X8 wc_X8_distance
theorem gc_X8_9 : GoodIn aw_all (va_wsS RX8 9 yX0_quotient (wsM yX0_quotient mX0_quotient)) := good_S wl_X8_9 wt_X0_quotient wn_X0 wc_X0_quotient
theorem gc_X8_15 : GoodIn aw_all (va_wsS RX8 15 yX0_wholeRoot (wsM yX0_wholeRoot mX0_wholeRoot)) := good_S wl_X8_15 wt_X0_wholeRoot wn_X0 wc_X0_wholeRoot
theorem gc_X8_35 : GoodIn aw_all (va_wsS RX8 35 yX2_at (wsM yX2_at mX2_at)) := good_S wl_X8_35 wt_X2_at wn_X2 wc_X2_at
theorem gc_X9_133 : GoodIn aw_all (va_wsS RX9 133 yX8_feltAt (wsM yX8_feltAt mX8_feltAt)) := good_S wl_X9_133 wt_X8_feltAt wn_X8 wc_X8_feltAt
theorem gc_X9_101 : GoodIn aw_all (va_wsS RX9 101 yX2_put (wsM yX2_put mX2_put)) := good_S wl_X9_101 wt_X2_put wn_X2 wc_X2_put
theorem gc_X9_137 : GoodIn aw_all (wsV RX9 137 RX5 yX5_takeReading (wsM yX5_takeReading mX5_takeReading)) := good_V wl_X9_137 wi_X5_takeReading ws9_X5_takeReading wn_X5 wc_X5_takeReading
theorem gc_X5_84 : GoodIn aw_all (wsV RX5 84 RX1 yX1_add (wsM yX1_add mX1_add)) := good_V wl_X5_84 wi_X1_add ws9_X1_add wn_X1 wc_X1_add
theorem gc_X1_35 : GoodIn aw_all (wsV RX1 35 RX1 yX1_remove (wsM yX1_remove mX1_remove)) := good_V wl_X1_35 wi_X1_remove ws9_X1_remove wn_X1 wc_X1_remove
theorem gc_X1_43 : GoodIn aw_all (wsV RX1 43 RX1 yX1_headOf (wsM yX1_headOf mX1_headOf)) := good_V wl_X1_43 wi_X1_headOf ws9_X1_headOf wn_X1 wc_X1_headOf
theorem gc_X1_31 : GoodIn aw_all (va_wsS RX1 31 yX2_at (wsM yX2_at mX2_at)) := good_S wl_X1_31 wt_X2_at wn_X2 wc_X2_at
theorem gc_X1_39 : GoodIn aw_all (va_wsS RX1 39 yX2_put (wsM yX2_put mX2_put)) := good_S wl_X1_39 wt_X2_put wn_X2 wc_X2_put
theorem gc_L_123 : GoodIn aw_all (wsV RL 123 RX9 yX9_clearBuffer (wsM yX9_clearBuffer mX9_clearBuffer)) := good_V wl_L_123 wi_X9_clearBuffer ws9_X9_clearBuffer wn_X9 wc_X9_clearBuffer
theorem gc_L_127 : GoodIn aw_all (wsV RL 127 RX9 yX9_firstError (wsM yX9_firstError mX9_firstError)) := good_V wl_L_127 wi_X9_firstError ws9_X9_firstError wn_X9 wc_X9_firstError
theorem gc_X9_181 : GoodIn aw_all (wsV RX9 181 RX6 yX6_firstWrong (wsM yX6_firstWrong mX6_firstWrong)) := good_V wl_X9_181 wi_X6_firstWrong ws9_X6_firstWrong wn_X6 wc_X6_firstWrong
theorem gc_X6_25 : GoodIn aw_all (va_wsS RX6 25 yX2_at (wsM yX2_at mX2_at)) := good_S wl_X6_25 wt_X2_at wn_X2 wc_X2_at
theorem gc_X6_29 : GoodIn aw_all (va_wsS RX6 29 yX6_isDigit (wsM yX6_isDigit mX6_isDigit)) := good_S wl_X6_29 wt_X6_isDigit wn_X6 wc_X6_isDigit
theorem gc_L_162 : GoodIn aw_all (wsV RL 162 RX9 yX9_worst (wsM yX9_worst mX9_worst)) := good_V wl_L_162 wi_X9_worst ws9_X9_worst wn_X9 wc_X9_worst
theorem gc_X9_224 : GoodIn aw_all (wsV RX9 224 RX7 yX7_judge (wsM yX7_judge mX7_judge)) := good_V wl_X9_224 wi_X7_judge ws9_X7_judge wn_X7 wc_X7_judge
theorem gc_X7_21 : GoodIn aw_all (wsV RX7 21 RX7 yX7_takeMeans (wsM yX7_takeMeans mX7_takeMeans)) := good_V wl_X7_21 wi_X7_takeMeans ws9_X7_takeMeans wn_X7 wc_X7_takeMeans
theorem gc_X7_52 : GoodIn aw_all (va_wsS RX7 52 yX2_clear (wsM yX2_clear mX2_clear)) := good_S wl_X7_52 wt_X2_clear wn_X2 wc_X2_clear
theorem gc_X7_65 : GoodIn aw_all (wsV RX7 65 RX1 yX1_isCounting (wsM yX1_isCounting mX1_isCounting)) := good_V wl_X7_65 wi_X1_isCounting ws9_X1_isCounting wn_X1 wc_X1_isCounting
theorem gc_X7_69 : GoodIn aw_all (va_wsS RX7 69 yX2_at (wsM yX2_at mX2_at)) := good_S wl_X7_69 wt_X2_at wn_X2 wc_X2_at
theorem gc_X7_73 : GoodIn aw_all (wsV RX7 73 RX1 yX1_headOf (wsM yX1_headOf mX1_headOf)) := good_V wl_X7_73 wi_X1_headOf ws9_X1_headOf wn_X1 wc_X1_headOf
theorem gc_X7_32 : GoodIn aw_all (va_wsS RX7 32 yX2_put (wsM yX2_put mX2_put)) := good_S wl_X7_32 wt_X2_put wn_X2 wc_X2_put
theorem gc_X7_77 : GoodIn aw_all (va_wsS RX7 77 yX0_quotient (wsM yX0_quotient mX0_quotient)) := good_S wl_X7_77 wt_X0_quotient wn_X0 wc_X0_quotient
theorem gc_X7_25 : GoodIn aw_all (wsV RX7 25 RX7 yX7_giveReasons (wsM yX7_giveReasons mX7_giveReasons)) := good_V wl_X7_25 wi_X7_giveReasons ws9_X7_giveReasons wn_X7 wc_X7_giveReasons
theorem gc_X7_96 : GoodIn aw_all (wsV RX7 96 RX7 yX7_reasonFor (wsM yX7_reasonFor mX7_reasonFor)) := good_V wl_X7_96 wi_X7_reasonFor ws9_X7_reasonFor wn_X7 wc_X7_reasonFor
theorem gc_X7_29 : GoodIn aw_all (wsV RX7 29 RX7 yX7_tellSpeeds (wsM yX7_tellSpeeds mX7_tellSpeeds)) := good_V wl_X7_29 wi_X7_tellSpeeds ws9_X7_tellSpeeds wn_X7 wc_X7_tellSpeeds
theorem gc_X7_100 : GoodIn aw_all (va_wsS RX7 100 yX0_wholeRoot (wsM yX0_wholeRoot mX0_wholeRoot)) := good_S wl_X7_100 wt_X0_wholeRoot wn_X0 wc_X0_wholeRoot
theorem gc_X7_104 : GoodIn aw_all (va_wsS RX7 104 yX7_mended (wsM yX7_mended mX7_mended)) := good_S wl_X7_104 wt_X7_mended wn_X7 wc_X7_mended
theorem gc_X9_251 : GoodIn aw_all (wsV RX9 251 RX9 yX9_worstHole (wsM yX9_worstHole mX9_worstHole)) := good_V wl_X9_251 wi_X9_worstHole ws9_X9_worstHole wn_X9 wc_X9_worstHole
theorem gc_X9_313 : GoodIn aw_all (wsV RX9 313 RX7 yX7_flowOfRings (wsM yX7_flowOfRings mX7_flowOfRings)) := good_V wl_X9_313 wi_X7_flowOfRings ws9_X7_flowOfRings wn_X7 wc_X7_flowOfRings
theorem gc_X7_107 : GoodIn aw_all (va_wsS RX7 107 yX8_flowOfRing (wsM yX8_flowOfRing mX8_flowOfRing)) := good_S wl_X7_107 wt_X8_flowOfRing wn_X8 wc_X8_flowOfRing
theorem gc_X9_248 : GoodIn aw_all (wsV RX9 248 RX9 yX9_wholeIfRight (wsM yX9_wholeIfRight mX9_wholeIfRight)) := good_V wl_X9_248 wi_X9_wholeIfRight ws9_X9_wholeIfRight wn_X9 wc_X9_wholeIfRight
theorem gc_X9_347 : GoodIn aw_all (wsV RX9 347 RX7 yX7_judgeIfRight (wsM yX7_judgeIfRight mX7_judgeIfRight)) := good_V wl_X9_347 wi_X7_judgeIfRight ws9_X7_judgeIfRight wn_X7 wc_X7_judgeIfRight
theorem gc_L_172 : GoodIn aw_all (wsV RL 172 RX9 yX9_evenness (wsM yX9_evenness mX9_evenness)) := good_V wl_L_172 wi_X9_evenness ws9_X9_evenness wn_X9 wc_X9_evenness
theorem gc_X9_264 : GoodIn aw_all (wsV RX9 264 RX7 yX7_leastByGreatest (wsM yX7_leastByGreatest mX7_leastByGreatest)) := good_V wl_X9_264 wi_X7_leastByGreatest ws9_X7_leastByGreatest wn_X7 wc_X7_leastByGreatest
theorem gc_L_177 : GoodIn aw_all (wsV RL 177 RX9 yX9_digest (wsM yX9_digest mX9_digest)) := good_V wl_L_177 wi_X9_digest ws9_X9_digest wn_X9 wc_X9_digest
theorem gc_X9_245 : GoodIn aw_all (wsV RX9 245 RX9 yX9_countValue (wsM yX9_countValue mX9_countValue)) := good_V wl_X9_245 wi_X9_countValue ws9_X9_countValue wn_X9 wc_X9_countValue
theorem gc_X9_332 : GoodIn aw_all (wsV RX9 332 RX7 yX7_countOfReason (wsM yX7_countOfReason mX7_countOfReason)) := good_V wl_X9_332 wi_X7_countOfReason ws9_X7_countOfReason wn_X7 wc_X7_countOfReason
theorem gc_X9_341 : GoodIn aw_all (wsV RX9 341 RX5 yX5_workOfHoles (wsM yX5_workOfHoles mX5_workOfHoles)) := good_V wl_X9_341 wi_X5_workOfHoles ws9_X5_workOfHoles wn_X5 wc_X5_workOfHoles
theorem gc_X5_80 : GoodIn aw_all (va_wsS RX5 80 yX2_at (wsM yX2_at mX2_at)) := good_S wl_X5_80 wt_X2_at wn_X2 wc_X2_at
theorem gc_X9_270 : GoodIn aw_all (va_wsS RX9 270 yX9_mixed (wsM yX9_mixed mX9_mixed)) := good_S wl_X9_270 wt_X9_mixed wn_X9 wc_X9_mixed
theorem gc_X9_95 : GoodIn aw_all (va_wsS RX9 95 yX2_at (wsM yX2_at mX2_at)) := good_S wl_X9_95 wt_X2_at wn_X2 wc_X2_at
theorem gc_X9_274 : GoodIn aw_all (wsV RX9 274 RX9 yX9_mixedWithHoles (wsM yX9_mixedWithHoles mX9_mixedWithHoles)) := good_V wl_X9_274 wi_X9_mixedWithHoles ws9_X9_mixedWithHoles wn_X9 wc_X9_mixedWithHoles
theorem gc_X9_227 : GoodIn aw_all (wsV RX9 227 RX9 yX9_holeValue (wsM yX9_holeValue mX9_holeValue)) := good_V wl_X9_227 wi_X9_holeValue ws9_X9_holeValue wn_X9 wc_X9_holeValue
theorem gc_X9_291 : GoodIn aw_all (va_wsS RX9 291 yX8_distance (wsM yX8_distance mX8_distance)) := good_S wl_X9_291 wt_X8_distance wn_X8 wc_X8_distance
theorem gc_X9_295 : GoodIn aw_all (va_wsS RX9 295 yX8_speedAt (wsM yX8_speedAt mX8_speedAt)) := good_S wl_X9_295 wt_X8_speedAt wn_X8 wc_X8_speedAt
theorem gc_X9_278 : GoodIn aw_all (wsV RX9 278 RX9 yX9_mixedWithReadings (wsM yX9_mixedWithReadings mX9_mixedWithReadings)) := good_V wl_X9_278 wi_X9_mixedWithReadings ws9_X9_mixedWithReadings wn_X9 wc_X9_mixedWithReadings
theorem gc_X9_233 : GoodIn aw_all (wsV RX9 233 RX9 yX9_readingValue (wsM yX9_readingValue mX9_readingValue)) := good_V wl_X9_233 wi_X9_readingValue ws9_X9_readingValue wn_X9 wc_X9_readingValue
theorem gc_X9_325 : GoodIn aw_all (wsV RX9 325 RX1 yX1_isCounting (wsM yX1_isCounting mX1_isCounting)) := good_V wl_X9_325 wi_X1_isCounting ws9_X1_isCounting wn_X1 wc_X1_isCounting
theorem gc_X9_329 : GoodIn aw_all (wsV RX9 329 RX1 yX1_headOf (wsM yX1_headOf mX1_headOf)) := good_V wl_X9_329 wi_X1_headOf ws9_X1_headOf wn_X1 wc_X1_headOf
theorem gc_X9_239 : GoodIn aw_all (wsV RX9 239 RX9 yX9_flowValue (wsM yX9_flowValue mX9_flowValue)) := good_V wl_X9_239 wi_X9_flowValue ws9_X9_flowValue wn_X9 wc_X9_flowValue
theorem gc_X9_255 : GoodIn aw_all (va_wsS RX9 255 yX8_whole (wsM yX8_whole mX8_whole)) := good_S wl_X9_255 wt_X8_whole wn_X8 wc_X8_whole
theorem gc_X8_54 : GoodIn aw_all (va_wsS RX8 54 yX8_flowOfRing (wsM yX8_flowOfRing mX8_flowOfRing)) := good_S wl_X8_54 wt_X8_flowOfRing wn_X8 wc_X8_flowOfRing
theorem gc_X9_261 : GoodIn aw_all (wsV RX9 261 RX9 yX9_fewestHoles (wsM yX9_fewestHoles mX9_fewestHoles)) := good_V wl_X9_261 wi_X9_fewestHoles ws9_X9_fewestHoles wn_X9 wc_X9_fewestHoles
theorem gc_X9_282 : GoodIn aw_all (va_wsS RX9 282 yX0_bitsOfShare (wsM yX0_bitsOfShare mX0_bitsOfShare)) := good_S wl_X9_282 wt_X0_bitsOfShare wn_X0 wc_X0_bitsOfShare
theorem gc_X9_288 : GoodIn aw_all (wsV RX9 288 RX9 yX9_mixedWithBuffer (wsM yX9_mixedWithBuffer mX9_mixedWithBuffer)) := good_V wl_X9_288 wi_X9_mixedWithBuffer ws9_X9_mixedWithBuffer wn_X9 wc_X9_mixedWithBuffer
theorem gc_L_7 : GoodIn aw_all (wsV RL 7 RX9 yX9_rake (wsM yX9_rake mX9_rake)) := good_V wl_L_7 wi_X9_rake ws9_X9_rake wn_X9 wc_X9_rake
theorem gc_X9_54 : GoodIn aw_all (va_wsS RX9 54 yX9_isNoRake (wsM yX9_isNoRake mX9_isNoRake)) := good_S wl_X9_54 wt_X9_isNoRake wn_X9 wc_X9_isNoRake
theorem gc_X9_73 : GoodIn aw_all (wsV RX9 73 RX5 yX5_putRake (wsM yX5_putRake mX5_putRake)) := good_V wl_X9_73 wi_X5_putRake ws9_X5_putRake wn_X5 wc_X5_putRake
theorem gc_X5_68 : GoodIn aw_all (wsV RX5 68 RX5 yX5_workOfHoles (wsM yX5_workOfHoles mX5_workOfHoles)) := good_V wl_X5_68 wi_X5_workOfHoles ws9_X5_workOfHoles wn_X5 wc_X5_workOfHoles
theorem gc_X5_72 : GoodIn aw_all (wsV RX5 72 RX5 yX5_clearHole (wsM yX5_clearHole mX5_clearHole)) := good_V wl_X5_72 wi_X5_clearHole ws9_X5_clearHole wn_X5 wc_X5_clearHole
theorem gc_X5_76 : GoodIn aw_all (va_wsS RX5 76 yX2_put (wsM yX2_put mX2_put)) := good_S wl_X5_76 wt_X2_put wn_X2 wc_X2_put
theorem gc_L_15 : GoodIn aw_all (wsV RL 15 RX9 yX9_radius (wsM yX9_radius mX9_radius)) := good_V wl_L_15 wi_X9_radius ws9_X9_radius wn_X9 wc_X9_radius
theorem gc_L_18 : GoodIn aw_all (wsV RL 18 RX9 yX9_block (wsM yX9_block mX9_block)) := good_V wl_L_18 wi_X9_block ws9_X9_block wn_X9 wc_X9_block
theorem gc_X9_82 : GoodIn aw_all (wsV RX9 82 RX9 yX9_isNoHole (wsM yX9_isNoHole mX9_isNoHole)) := good_V wl_X9_82 wi_X9_isNoHole ws9_X9_isNoHole wn_X9 wc_X9_isNoHole
theorem gc_L_24 : GoodIn aw_all (wsV RL 24 RX9 yX9_leak (wsM yX9_leak mX9_leak)) := good_V wl_L_24 wi_X9_leak ws9_X9_leak wn_X9 wc_X9_leak
theorem gc_L_27 : GoodIn aw_all (wsV RL 27 RX9 yX9_clean (wsM yX9_clean mX9_clean)) := good_V wl_L_27 wi_X9_clean ws9_X9_clean wn_X9 wc_X9_clean
theorem gc_X9_110 : GoodIn aw_all (wsV RX9 110 RX5 yX5_workOfCleaning (wsM yX5_workOfCleaning mX5_workOfCleaning)) := good_V wl_X9_110 wi_X5_workOfCleaning ws9_X5_workOfCleaning wn_X5 wc_X5_workOfCleaning
theorem gc_X9_114 : GoodIn aw_all (wsV RX9 114 RX5 yX5_clearHole (wsM yX5_clearHole mX5_clearHole)) := good_V wl_X9_114 wi_X5_clearHole ws9_X5_clearHole wn_X5 wc_X5_clearHole
theorem gc_X9_117 : GoodIn aw_all (wsV RX9 117 RX5 yX5_addHoleWork (wsM yX5_addHoleWork mX5_addHoleWork)) := good_V wl_X9_117 wi_X5_addHoleWork ws9_X5_addHoleWork wn_X5 wc_X5_addHoleWork
theorem gc_L_30 : GoodIn aw_all (wsV RL 30 RX9 yX9_test (wsM yX9_test mX9_test)) := good_V wl_L_30 wi_X9_test ws9_X9_test wn_X9 wc_X9_test
theorem gc_L_33 : GoodIn aw_all (wsV RL 33 RX9 yX9_drop (wsM yX9_drop mX9_drop)) := good_V wl_L_33 wi_X9_drop ws9_X9_drop wn_X9 wc_X9_drop
theorem gc_X9_150 : GoodIn aw_all (wsV RX9 150 RX9 yX9_isNoReading (wsM yX9_isNoReading mX9_isNoReading)) := good_V wl_X9_150 wi_X9_isNoReading ws9_X9_isNoReading wn_X9 wc_X9_isNoReading
theorem gc_X9_155 : GoodIn aw_all (wsV RX9 155 RX1 yX1_remove (wsM yX1_remove mX1_remove)) := good_V wl_X9_155 wi_X1_remove ws9_X1_remove wn_X1 wc_X1_remove
theorem gc_L_36 : GoodIn aw_all (wsV RL 36 RX9 yX9_set (wsM yX9_set mX9_set)) := good_V wl_L_36 wi_X9_set ws9_X9_set wn_X9 wc_X9_set
theorem gc_X9_158 : GoodIn aw_all (va_wsS RX9 158 yX9_isNoSetting (wsM yX9_isNoSetting mX9_isNoSetting)) := good_S wl_X9_158 wt_X9_isNoSetting wn_X9 wc_X9_isNoSetting
theorem gc_L_39 : GoodIn aw_all (wsV RL 39 RX9 yX9_append (wsM yX9_append mX9_append)) := good_V wl_L_39 wi_X9_append ws9_X9_append wn_X9 wc_X9_append
theorem gc_X9_178 : GoodIn aw_all (wsV RX9 178 RX6 yX6_add (wsM yX6_add mX6_add)) := good_V wl_X9_178 wi_X6_add ws9_X6_add wn_X6 wc_X6_add
theorem gc_X6_19 : GoodIn aw_all (va_wsS RX6 19 yX2_put (wsM yX2_put mX2_put)) := good_S wl_X6_19 wt_X2_put wn_X2 wc_X2_put
theorem gc_L_44 : GoodIn aw_all (wsV RL 44 RX9 yX9_load (wsM yX9_load mX9_load)) := good_V wl_L_44 wi_X9_load ws9_X9_load wn_X9 wc_X9_load
theorem gc_X9_185 : GoodIn aw_all (wsV RX9 185 RX6 yX6_tellsReading (wsM yX6_tellsReading mX6_tellsReading)) := good_V wl_X9_185 wi_X6_tellsReading ws9_X6_tellsReading wn_X6 wc_X6_tellsReading
theorem gc_X6_33 : GoodIn aw_all (wsV RX6 33 RX6 yX6_firstWrong (wsM yX6_firstWrong mX6_firstWrong)) := good_V wl_X6_33 wi_X6_firstWrong ws9_X6_firstWrong wn_X6 wc_X6_firstWrong
theorem gc_X9_191 : GoodIn aw_all (wsV RX9 191 RX6 yX6_headsInto (wsM yX6_headsInto mX6_headsInto)) := good_V wl_X9_191 wi_X6_headsInto ws9_X6_headsInto wn_X6 wc_X6_headsInto
theorem gc_L_48 : GoodIn aw_all (wsV RL 48 RX9 yX9_keep (wsM yX9_keep mX9_keep)) := good_V wl_L_48 wi_X9_keep ws9_X9_keep wn_X9 wc_X9_keep
theorem gc_X9_195 : GoodIn aw_all (va_wsS RX9 195 yX9_isNoSlot (wsM yX9_isNoSlot mX9_isNoSlot)) := good_S wl_X9_195 wt_X9_isNoSlot wn_X9 wc_X9_isNoSlot
theorem gc_X9_200 : GoodIn aw_all (wsV RX9 200 RX9 yX9_slotOf (wsM yX9_slotOf mX9_slotOf)) := good_V wl_X9_200 wi_X9_slotOf ws9_X9_slotOf wn_X9 wc_X9_slotOf
theorem gc_X9_207 : GoodIn aw_all (wsV RX9 207 RX5 yX5_become (wsM yX5_become mX5_become)) := good_V wl_X9_207 wi_X5_become ws9_X5_become wn_X5 wc_X5_become
theorem gc_L_51 : GoodIn aw_all (wsV RL 51 RX9 yX9_goBack (wsM yX9_goBack mX9_goBack)) := good_V wl_L_51 wi_X9_goBack ws9_X9_goBack wn_X9 wc_X9_goBack
theorem gc_L_54 : GoodIn aw_all (wsV RL 54 RX9 yX9_undo (wsM yX9_undo mX9_undo)) := good_V wl_L_54 wi_X9_undo ws9_X9_undo wn_X9 wc_X9_undo
theorem gc_X9_219 : GoodIn aw_all (wsV RX9 219 RX3 yX3_popInto (wsM yX3_popInto mX3_popInto)) := good_V wl_X9_219 wi_X3_popInto ws9_X3_popInto wn_X3 wc_X3_popInto
theorem gc_L_57 : GoodIn aw_all (wsV RL 57 RX9 yX9_hole (wsM yX9_hole mX9_hole)) := good_V wl_L_57 wi_X9_hole ws9_X9_hole wn_X9 wc_X9_hole
theorem gc_L_60 : GoodIn aw_all (wsV RL 60 RX9 yX9_reading (wsM yX9_reading mX9_reading)) := good_V wl_L_60 wi_X9_reading ws9_X9_reading wn_X9 wc_X9_reading
theorem gc_L_63 : GoodIn aw_all (wsV RL 63 RX9 yX9_flow (wsM yX9_flow mX9_flow)) := good_V wl_L_63 wi_X9_flow ws9_X9_flow wn_X9 wc_X9_flow
theorem gc_L_66 : GoodIn aw_all (wsV RL 66 RX9 yX9_count (wsM yX9_count mX9_count)) := good_V wl_L_66 wi_X9_count ws9_X9_count wn_X9 wc_X9_count
theorem gc_L_69 : GoodIn aw_all (wsV RL 69 RX9 yX9_setting (wsM yX9_setting mX9_setting)) := good_V wl_L_69 wi_X9_setting ws9_X9_setting wn_X9 wc_X9_setting
theorem gc_L_72 : GoodIn aw_all (wsV RL 72 RX9 yX9_ifRight (wsM yX9_ifRight mX9_ifRight)) := good_V wl_L_72 wi_X9_ifRight ws9_X9_ifRight wn_X9 wc_X9_ifRight
theorem gc_L_75 : GoodIn aw_all (wsV RL 75 RX9 yX9_ifRake (wsM yX9_ifRake mX9_ifRake)) := good_V wl_L_75 wi_X9_ifRake ws9_X9_ifRake wn_X9 wc_X9_ifRake
theorem gc_L_78 : GoodIn aw_all (wsV RL 78 RX9 yX9_fineRake (wsM yX9_fineRake mX9_fineRake)) := good_V wl_L_78 wi_X9_fineRake ws9_X9_fineRake wn_X9 wc_X9_fineRake
theorem gc_L_84 : GoodIn aw_all (wsM yX10_init mX10_init) := good_I wc_X10_init
theorem gc_X10_42 : GoodIn aw_all (wsV RX10 42 RX10 yX10_clearsHoles (wsM yX10_clearsHoles mX10_clearsHoles)) := good_V wl_X10_42 wi_X10_clearsHoles ws9_X10_clearsHoles wn_X10 wc_X10_clearsHoles
theorem gc_X10_49 : GoodIn aw_all (wsV RX10 49 RX10 yX10_lay (wsM yX10_lay mX10_lay)) := good_V wl_X10_49 wi_X10_lay ws9_X10_lay wn_X10 wc_X10_lay
theorem gc_L_91 : GoodIn aw_all (wsV RL 91 RX10 yX10_thrown (wsM yX10_thrown mX10_thrown)) := good_V wl_L_91 wi_X10_thrown ws9_X10_thrown wn_X10 wc_X10_thrown
theorem gc_L_90 : GoodIn aw_all (wsV RL 90 RX10 yX10_rake (wsM yX10_rake mX10_rake)) := good_V wl_L_90 wi_X10_rake ws9_X10_rake wn_X10 wc_X10_rake
theorem gc_X10_45 : GoodIn aw_all (va_wsS RX10 45 yX10_in (wsM yX10_in mX10_in)) := good_S wl_X10_45 wt_X10_in wn_X10 wc_X10_in
theorem gc_X10_110 : GoodIn aw_all (wsV RX10 110 RX10 yX10_fails (wsM yX10_fails mX10_fails)) := good_V wl_X10_110 wi_X10_fails ws9_X10_fails wn_X10 wc_X10_fails
theorem gc_X10_113 : GoodIn aw_all (wsV RX10 113 RX10 yX10_saves (wsM yX10_saves mX10_saves)) := good_V wl_X10_113 wi_X10_saves ws9_X10_saves wn_X10 wc_X10_saves
theorem gc_X10_116 : GoodIn aw_all (wsV RX10 116 RX10 yX10_holeWork (wsM yX10_holeWork mX10_holeWork)) := good_V wl_X10_116 wi_X10_holeWork ws9_X10_holeWork wn_X10 wc_X10_holeWork
theorem gc_X10_71 : GoodIn aw_all (wsV RX10 71 RX10 yX10_of (wsM yX10_of mX10_of)) := good_V wl_X10_71 wi_X10_of ws9_X10_of wn_X10 wc_X10_of
theorem gc_L_96 : GoodIn aw_all (wsV RL 96 RX10 yX10_radius (wsM yX10_radius mX10_radius)) := good_V wl_L_96 wi_X10_radius ws9_X10_radius wn_X10 wc_X10_radius
theorem gc_L_100 : GoodIn aw_all (wsV RL 100 RX10 yX10_block (wsM yX10_block mX10_block)) := good_V wl_L_100 wi_X10_block ws9_X10_block wn_X10 wc_X10_block
theorem gc_X10_120 : GoodIn aw_all (wsV RX10 120 RX10 yX10_changes (wsM yX10_changes mX10_changes)) := good_V wl_X10_120 wi_X10_changes ws9_X10_changes wn_X10 wc_X10_changes
theorem gc_X10_87 : GoodIn aw_all (wsV RX10 87 RX10 yX10_isHole (wsM yX10_isHole mX10_isHole)) := good_V wl_X10_87 wi_X10_isHole ws9_X10_isHole wn_X10 wc_X10_isHole
theorem gc_L_103 : GoodIn aw_all (wsV RL 103 RX10 yX10_leak (wsM yX10_leak mX10_leak)) := good_V wl_L_103 wi_X10_leak ws9_X10_leak wn_X10 wc_X10_leak
theorem gc_L_106 : GoodIn aw_all (wsV RL 106 RX10 yX10_clean (wsM yX10_clean mX10_clean)) := good_V wl_L_106 wi_X10_clean ws9_X10_clean wn_X10 wc_X10_clean
theorem gc_L_109 : GoodIn aw_all (wsV RL 109 RX10 yX10_test (wsM yX10_test mX10_test)) := good_V wl_L_109 wi_X10_test ws9_X10_test wn_X10 wc_X10_test
theorem gc_L_113 : GoodIn aw_all (wsV RL 113 RX10 yX10_read (wsM yX10_read mX10_read)) := good_V wl_L_113 wi_X10_read ws9_X10_read wn_X10 wc_X10_read
theorem gc_X10_127 : GoodIn aw_all (wsV RX10 127 RX10 yX10_comes (wsM yX10_comes mX10_comes)) := good_V wl_X10_127 wi_X10_comes ws9_X10_comes wn_X10 wc_X10_comes
theorem gc_X10_124 : GoodIn aw_all (wsV RX10 124 RX10 yX10_drops (wsM yX10_drops mX10_drops)) := good_V wl_X10_124 wi_X10_drops ws9_X10_drops wn_X10 wc_X10_drops
theorem gc_X10_130 : GoodIn aw_all (wsV RX10 130 RX10 yX10_felt (wsM yX10_felt mX10_felt)) := good_V wl_X10_130 wi_X10_felt ws9_X10_felt wn_X10 wc_X10_felt
theorem gc_X10_68 : GoodIn aw_all (wsV RX10 68 RX10 yX10_trueHead (wsM yX10_trueHead mX10_trueHead)) := good_V wl_X10_68 wi_X10_trueHead ws9_X10_trueHead wn_X10 wc_X10_trueHead
theorem gc_X10_65 : GoodIn aw_all (wsV RX10 65 RX10 yX10_trueSpeed (wsM yX10_trueSpeed mX10_trueSpeed)) := good_V wl_X10_65 wi_X10_trueSpeed ws9_X10_trueSpeed wn_X10 wc_X10_trueSpeed
theorem gc_X10_61 : GoodIn aw_all (wsV RX10 61 RX10 yX10_distance (wsM yX10_distance mX10_distance)) := good_V wl_X10_61 wi_X10_distance ws9_X10_distance wn_X10 wc_X10_distance
theorem gc_X10_57 : GoodIn aw_all (va_wsS RX10 57 yX10_root (wsM yX10_root mX10_root)) := good_S wl_X10_57 wt_X10_root wn_X10 wc_X10_root
theorem gc_L_116 : GoodIn aw_all (wsV RL 116 RX10 yX10_drop (wsM yX10_drop mX10_drop)) := good_V wl_L_116 wi_X10_drop ws9_X10_drop wn_X10 wc_X10_drop
theorem gc_L_119 : GoodIn aw_all (wsV RL 119 RX10 yX10_set (wsM yX10_set mX10_set)) := good_V wl_L_119 wi_X10_set ws9_X10_set wn_X10 wc_X10_set
theorem gc_X10_133 : GoodIn aw_all (va_wsS RX10 133 yX10_isSetting (wsM yX10_isSetting mX10_isSetting)) := good_S wl_X10_133 wt_X10_isSetting wn_X10 wc_X10_isSetting
theorem gc_L_122 : GoodIn aw_all (wsV RL 122 RX10 yX10_append (wsM yX10_append mX10_append)) := good_V wl_L_122 wi_X10_append ws9_X10_append wn_X10 wc_X10_append
theorem gc_L_126 : GoodIn aw_all (wsV RL 126 RX10 yX10_clearBuffer (wsM yX10_clearBuffer mX10_clearBuffer)) := good_V wl_L_126 wi_X10_clearBuffer ws9_X10_clearBuffer wn_X10 wc_X10_clearBuffer
theorem gc_L_130 : GoodIn aw_all (wsV RL 130 RX10 yX10_firstError (wsM yX10_firstError mX10_firstError)) := good_V wl_L_130 wi_X10_firstError ws9_X10_firstError wn_X10 wc_X10_firstError
theorem gc_X10_157 : GoodIn aw_all (wsV RX10 157 RX10 yX10_readsAll (wsM yX10_readsAll mX10_readsAll)) := good_V wl_X10_157 wi_X10_readsAll ws9_X10_readsAll wn_X10 wc_X10_readsAll
theorem gc_X10_154 : GoodIn aw_all (wsV RX10 154 RX10 yX10_readsHead (wsM yX10_readsHead mX10_readsHead)) := good_V wl_X10_154 wi_X10_readsHead ws9_X10_readsHead wn_X10 wc_X10_readsHead
theorem gc_X10_143 : GoodIn aw_all (wsV RX10 143 RX10 yX10_sign (wsM yX10_sign mX10_sign)) := good_V wl_X10_143 wi_X10_sign ws9_X10_sign wn_X10 wc_X10_sign
theorem gc_L_134 : GoodIn aw_all (wsV RL 134 RX10 yX10_load (wsM yX10_load mX10_load)) := good_V wl_L_134 wi_X10_load ws9_X10_load wn_X10 wc_X10_load
theorem gc_L_137 : GoodIn aw_all (wsV RL 137 RX10 yX10_keep (wsM yX10_keep mX10_keep)) := good_V wl_L_137 wi_X10_keep ws9_X10_keep wn_X10 wc_X10_keep
theorem gc_L_140 : GoodIn aw_all (wsV RL 140 RX10 yX10_goBack (wsM yX10_goBack mX10_goBack)) := good_V wl_L_140 wi_X10_goBack ws9_X10_goBack wn_X10 wc_X10_goBack
theorem gc_L_143 : GoodIn aw_all (wsV RL 143 RX10 yX10_undo (wsM yX10_undo mX10_undo)) := good_V wl_L_143 wi_X10_undo ws9_X10_undo wn_X10 wc_X10_undo
theorem gc_L_146 : GoodIn aw_all (wsV RL 146 RX10 yX10_hole (wsM yX10_hole mX10_hole)) := good_V wl_L_146 wi_X10_hole ws9_X10_hole wn_X10 wc_X10_hole
theorem gc_X10_166 : GoodIn aw_all (wsV RX10 166 RX10 yX10_tellsHole (wsM yX10_tellsHole mX10_tellsHole)) := good_V wl_X10_166 wi_X10_tellsHole ws9_X10_tellsHole wn_X10 wc_X10_tellsHole
theorem gc_X10_160 : GoodIn aw_all (wsV RX10 160 RX10 yX10_laysAll (wsM yX10_laysAll mX10_laysAll)) := good_V wl_X10_160 wi_X10_laysAll ws9_X10_laysAll wn_X10 wc_X10_laysAll
theorem gc_X10_103 : GoodIn aw_all (wsV RX10 103 RX10 yX10_laysMeans (wsM yX10_laysMeans mX10_laysMeans)) := good_V wl_X10_103 wi_X10_laysMeans ws9_X10_laysMeans wn_X10 wc_X10_laysMeans
theorem gc_X10_83 : GoodIn aw_all (wsV RX10 83 RX10 yX10_counts (wsM yX10_counts mX10_counts)) := good_V wl_X10_83 wi_X10_counts ws9_X10_counts wn_X10 wc_X10_counts
theorem gc_X10_77 : GoodIn aw_all (wsV RX10 77 RX10 yX10_ofReading (wsM yX10_ofReading mX10_ofReading)) := good_V wl_X10_77 wi_X10_ofReading ws9_X10_ofReading wn_X10 wc_X10_ofReading
theorem gc_X10_106 : GoodIn aw_all (wsV RX10 106 RX10 yX10_laysTold (wsM yX10_laysTold mX10_laysTold)) := good_V wl_X10_106 wi_X10_laysTold ws9_X10_laysTold wn_X10 wc_X10_laysTold
theorem gc_X10_96 : GoodIn aw_all (wsV RX10 96 RX10 yX10_reason (wsM yX10_reason mX10_reason)) := good_V wl_X10_96 wi_X10_reason ws9_X10_reason wn_X10 wc_X10_reason
theorem gc_X10_100 : GoodIn aw_all (wsV RX10 100 RX10 yX10_mended (wsM yX10_mended mX10_mended)) := good_V wl_X10_100 wi_X10_mended ws9_X10_mended wn_X10 wc_X10_mended
theorem gc_X10_90 : GoodIn aw_all (wsV RX10 90 RX10 yX10_nearest (wsM yX10_nearest mX10_nearest)) := good_V wl_X10_90 wi_X10_nearest ws9_X10_nearest wn_X10 wc_X10_nearest
theorem gc_X10_163 : GoodIn aw_all (wsV RX10 163 RX10 yX10_flowOf (wsM yX10_flowOf mX10_flowOf)) := good_V wl_X10_163 wi_X10_flowOf ws9_X10_flowOf wn_X10 wc_X10_flowOf
theorem gc_X10_74 : GoodIn aw_all (wsV RX10 74 RX10 yX10_ringFlow (wsM yX10_ringFlow mX10_ringFlow)) := good_V wl_X10_74 wi_X10_ringFlow ws9_X10_ringFlow wn_X10 wc_X10_ringFlow
theorem gc_L_149 : GoodIn aw_all (wsV RL 149 RX10 yX10_reading (wsM yX10_reading mX10_reading)) := good_V wl_L_149 wi_X10_reading ws9_X10_reading wn_X10 wc_X10_reading
theorem gc_X10_169 : GoodIn aw_all (wsV RX10 169 RX10 yX10_tellsReading (wsM yX10_tellsReading mX10_tellsReading)) := good_V wl_X10_169 wi_X10_tellsReading ws9_X10_tellsReading wn_X10 wc_X10_tellsReading
theorem gc_L_152 : GoodIn aw_all (wsV RL 152 RX10 yX10_flow (wsM yX10_flow mX10_flow)) := good_V wl_L_152 wi_X10_flow ws9_X10_flow wn_X10 wc_X10_flow
theorem gc_X10_175 : GoodIn aw_all (wsV RX10 175 RX10 yX10_tellsFlow (wsM yX10_tellsFlow mX10_tellsFlow)) := good_V wl_X10_175 wi_X10_tellsFlow ws9_X10_tellsFlow wn_X10 wc_X10_tellsFlow
theorem gc_X10_172 : GoodIn aw_all (wsV RX10 172 RX10 yX10_trueFlow (wsM yX10_trueFlow mX10_trueFlow)) := good_V wl_X10_172 wi_X10_trueFlow ws9_X10_trueFlow wn_X10 wc_X10_trueFlow
theorem gc_L_155 : GoodIn aw_all (wsV RL 155 RX10 yX10_count (wsM yX10_count mX10_count)) := good_V wl_L_155 wi_X10_count ws9_X10_count wn_X10 wc_X10_count
theorem gc_X10_181 : GoodIn aw_all (wsV RX10 181 RX10 yX10_tellsCount (wsM yX10_tellsCount mX10_tellsCount)) := good_V wl_X10_181 wi_X10_tellsCount ws9_X10_tellsCount wn_X10 wc_X10_tellsCount
theorem gc_X10_178 : GoodIn aw_all (wsV RX10 178 RX10 yX10_holesFor (wsM yX10_holesFor mX10_holesFor)) := good_V wl_X10_178 wi_X10_holesFor ws9_X10_holesFor wn_X10 wc_X10_holesFor
theorem gc_L_158 : GoodIn aw_all (wsV RL 158 RX10 yX10_setting (wsM yX10_setting mX10_setting)) := good_V wl_L_158 wi_X10_setting ws9_X10_setting wn_X10 wc_X10_setting
theorem gc_L_161 : GoodIn aw_all (wsV RL 161 RX10 yX10_ifRight (wsM yX10_ifRight mX10_ifRight)) := good_V wl_L_161 wi_X10_ifRight ws9_X10_ifRight wn_X10 wc_X10_ifRight
theorem gc_X10_184 : GoodIn aw_all (wsV RX10 184 RX10 yX10_wholeIfRight (wsM yX10_wholeIfRight mX10_wholeIfRight)) := good_V wl_X10_184 wi_X10_wholeIfRight ws9_X10_wholeIfRight wn_X10 wc_X10_wholeIfRight
theorem gc_L_165 : GoodIn aw_all (wsV RL 165 RX10 yX10_worst (wsM yX10_worst mX10_worst)) := good_V wl_L_165 wi_X10_worst ws9_X10_worst wn_X10 wc_X10_worst
theorem gc_X10_187 : GoodIn aw_all (wsV RX10 187 RX10 yX10_worstOne (wsM yX10_worstOne mX10_worstOne)) := good_V wl_X10_187 wi_X10_worstOne ws9_X10_worstOne wn_X10 wc_X10_worstOne
theorem gc_L_168 : GoodIn aw_all (wsV RL 168 RX10 yX10_ifRake (wsM yX10_ifRake mX10_ifRake)) := good_V wl_L_168 wi_X10_ifRake ws9_X10_ifRake wn_X10 wc_X10_ifRake
theorem gc_L_171 : GoodIn aw_all (wsV RL 171 RX10 yX10_fineRake (wsM yX10_fineRake mX10_fineRake)) := good_V wl_L_171 wi_X10_fineRake ws9_X10_fineRake wn_X10 wc_X10_fineRake
theorem gc_X10_190 : GoodIn aw_all (wsV RX10 190 RX10 yX10_fine (wsM yX10_fine mX10_fine)) := good_V wl_X10_190 wi_X10_fine ws9_X10_fine wn_X10 wc_X10_fine
theorem gc_L_176 : GoodIn aw_all (wsV RL 176 RX10 yX10_evenness (wsM yX10_evenness mX10_evenness)) := good_V wl_L_176 wi_X10_evenness ws9_X10_evenness wn_X10 wc_X10_evenness
theorem gc_X10_193 : GoodIn aw_all (wsV RX10 193 RX10 yX10_even (wsM yX10_even mX10_even)) := good_V wl_X10_193 wi_X10_even ws9_X10_even wn_X10 wc_X10_even
theorem gc_L_181 : GoodIn aw_all (wsV RL 181 RX10 yX10_digest (wsM yX10_digest mX10_digest)) := good_V wl_L_181 wi_X10_digest ws9_X10_digest wn_X10 wc_X10_digest
theorem gc_X10_203 : GoodIn aw_all (wsV RX10 203 RX10 yX10_hashes (wsM yX10_hashes mX10_hashes)) := good_V wl_X10_203 wi_X10_hashes ws9_X10_hashes wn_X10 wc_X10_hashes
theorem gc_X10_209 : GoodIn aw_all (wsV RX10 209 RX10 yX10_hashesHole (wsM yX10_hashesHole mX10_hashesHole)) := good_V wl_X10_209 wi_X10_hashesHole ws9_X10_hashesHole wn_X10 wc_X10_hashesHole
/-- an exact answer and world -/
def rX (v : Option Value) (σ1 : AS) : AR → AS → Prop := fun r τ => r = .inl v ∧ τ = σ1
theorem rX_i {x y : Int32} {σ1 τ : AS} (h : x = y) (h2 : τ = σ1) : rX (some (.int y)) σ1 (.inl (some (.int x))) τ := ⟨by rw [h], h2⟩
theorem rX_l {x y : Int64} {σ1 τ : AS} (h : x = y) (h2 : τ = σ1) : rX (some (.long y)) σ1 (.inl (some (.long x))) τ := ⟨by rw [h], h2⟩
theorem rX_d {x y : UInt64} {σ1 τ : AS} (h : x = y) (h2 : τ = σ1) : rX (some (.double y)) σ1 (.inl (some (.double x))) τ := ⟨by rw [h], h2⟩
theorem rX_r {x y : Nat} {σ1 τ : AS} (h : x = y) (h2 : τ = σ1) : rX (some (.ref y)) σ1 (.inl (some (.ref x))) τ := ⟨by rw [h], h2⟩
theorem rX_v {σ1 τ : AS} (h2 : τ = σ1) : rX none σ1 (.inl none) τ := ⟨rfl, h2⟩
theorem as_self {σ : AS} {a : Nat} {c0 c : AC} (h : σ[a]? = some c0) : (σ.set a c)[a]? = some c := by
  rw [List.getElem?_set_self (List.getElem?_eq_some_iff.mp h).1]
theorem as_ne {σ : AS} {a k : Nat} {c c1 : AC} (h : σ[k]? = some c) (hne : a ≠ k) : (σ.set a c1)[k]? = some c := by
  rw [List.getElem?_set_ne hne]; exact h
section CALLS2
variable {g : AG} {M : AM} {d pc : Nat} {L : List (Nat × Value)} {st : List Value} {σ : AS} {bc bs : Nat} {Q : AR → AS → Prop}
theorem aw_cs {own : String} {index d' n : Nat} {y : MethodName} {M' : AM} {av rest st' : List Value} {v : Option Value} {σ1 : AS} (hd : decode M.2.1 pc = .ok (.invokestatic index, 3)) (hown : M.1 = own) (ct : CT g y M' d' 0 0 av σ (rX v σ1)) (hdd : d' + 1 ≤ d) (hmax : M'.2.2.1 ≤ 17)
    (hG : GoodIn aw_all (va_wsS own index y (wsM y M'))) (hyd : y.cls ≠ "java/lang/invoke/MethodHandle" ∧ y.cls ≠ "java/lang/invoke/VarHandle" ∧ (parseMethodDescriptor y.desc).map (fun d => d.parameters.length) = some n) (hn : av.length = n) (hst : av.reverse ++ rest = st) (hcat : (rest.map fun v => v.category).sum ≤ 8) (hs' : v.toList ++ rest = st')
    (k : AW g M d (pc + 3) L st' σ1 bc bs Q) : AW g M d pc L st σ bc bs Q :=
  aw_invokestatic hd hown ct hdd hmax hG hyd hn hst hcat (Or.inl rfl) (Nat.zero_add _) (Nat.zero_add _) (fun v' σ' h => by
    obtain ⟨h1, h2⟩ := h
    cases h1; subst h2; rw [hs']; exact k)
theorem aw_cv {own C0 : String} {T : u_T} {N ci index d' n b : Nat} {y : MethodName} {M' : AM} {As rest fs st' : List Value} {v : Option Value} {σ1 : AS} (hd : decode M.2.1 pc = .ok (.invokevirtual index, 3)) (hown : M.1 = own) (hs : σ[b]? = some (ac_o ci fs)) (hc : vwCl[ci]? = some (C0, T, N)) (ct : CT g y M' d' 0 0 (.ref b :: As) σ (rX v σ1)) (hdd : d' + 1 ≤ d) (hmax : M'.2.2.1 ≤ 17)
    (hG : GoodIn aw_all (wsV own index C0 y (wsM y M'))) (hyc : y.cls = C0) (hyd : y.cls ≠ "java/lang/invoke/MethodHandle" ∧ y.cls ≠ "java/lang/invoke/VarHandle" ∧ (parseMethodDescriptor y.desc).map (fun d => d.parameters.length) = some n) (hn : As.length = n) (hst : As.reverse ++ .ref b :: rest = st) (hcat : (rest.map fun v => v.category).sum ≤ 8) (hs' : v.toList ++ rest = st')
    (k : AW g M d (pc + 3) L st' σ1 bc bs Q) : AW g M d pc L st σ bc bs Q :=
  aw_invokevirtual hd hown hs hc ct hdd hmax hG ⟨hyc, hyd⟩ hn hst hcat (Or.inl rfl) (Nat.zero_add _) (Nat.zero_add _) (fun v' σ' h => by
    obtain ⟨h1, h2⟩ := h
    cases h1; subst h2; rw [hs']; exact k)
end CALLS2
