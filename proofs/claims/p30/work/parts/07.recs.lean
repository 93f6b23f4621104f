abbrev mX0_quotient : AM := (RX0, cX0_quotient, 2, (Option.some Jvm.ClassFile.FieldType.int), false)
theorem ydX0_quotient : yX0_quotient.cls ≠ "java/lang/invoke/MethodHandle" ∧ yX0_quotient.cls ≠ "java/lang/invoke/VarHandle" ∧ (parseMethodDescriptor yX0_quotient.desc).map (fun d => d.parameters.length) = some 2 := by decide +kernel
abbrev mX0_wholeRoot : AM := (RX0, cX0_wholeRoot, 6, (Option.some Jvm.ClassFile.FieldType.int), false)
theorem ydX0_wholeRoot : yX0_wholeRoot.cls ≠ "java/lang/invoke/MethodHandle" ∧ yX0_wholeRoot.cls ≠ "java/lang/invoke/VarHandle" ∧ (parseMethodDescriptor yX0_wholeRoot.desc).map (fun d => d.parameters.length) = some 1 := by decide +kernel
abbrev mX1_init : AM := (RX1, cX1_init, 1, (Option.none : Option Jvm.ClassFile.FieldType), true)
theorem ydX1_init : yX1_init.cls ≠ "java/lang/invoke/MethodHandle" ∧ yX1_init.cls ≠ "java/lang/invoke/VarHandle" ∧ (parseMethodDescriptor yX1_init.desc).map (fun d => d.parameters.length) = some 0 := by decide +kernel
abbrev mX1_become : AM := (RX1, cX1_become, 2, (Option.none : Option Jvm.ClassFile.FieldType), false)
theorem ydX1_become : yX1_become.cls ≠ "java/lang/invoke/MethodHandle" ∧ yX1_become.cls ≠ "java/lang/invoke/VarHandle" ∧ (parseMethodDescriptor yX1_become.desc).map (fun d => d.parameters.length) = some 1 := by decide +kernel
abbrev mX1_headOf : AM := (RX1, cX1_headOf, 3, (Option.some Jvm.ClassFile.FieldType.int), false)
theorem ydX1_headOf : yX1_headOf.cls ≠ "java/lang/invoke/MethodHandle" ∧ yX1_headOf.cls ≠ "java/lang/invoke/VarHandle" ∧ (parseMethodDescriptor yX1_headOf.desc).map (fun d => d.parameters.length) = some 2 := by decide +kernel
abbrev mX1_isCounting : AM := (RX1, cX1_isCounting, 4, (Option.some Jvm.ClassFile.FieldType.boolean), false)
theorem ydX1_isCounting : yX1_isCounting.cls ≠ "java/lang/invoke/MethodHandle" ∧ yX1_isCounting.cls ≠ "java/lang/invoke/VarHandle" ∧ (parseMethodDescriptor yX1_isCounting.desc).map (fun d => d.parameters.length) = some 3 := by decide +kernel
abbrev mX1_add : AM := (RX1, cX1_add, 5, (Option.none : Option Jvm.ClassFile.FieldType), false)
theorem ydX1_add : yX1_add.cls ≠ "java/lang/invoke/MethodHandle" ∧ yX1_add.cls ≠ "java/lang/invoke/VarHandle" ∧ (parseMethodDescriptor yX1_add.desc).map (fun d => d.parameters.length) = some 3 := by decide +kernel
abbrev mX1_remove : AM := (RX1, cX1_remove, 4, (Option.none : Option Jvm.ClassFile.FieldType), false)
theorem ydX1_remove : yX1_remove.cls ≠ "java/lang/invoke/MethodHandle" ∧ yX1_remove.cls ≠ "java/lang/invoke/VarHandle" ∧ (parseMethodDescriptor yX1_remove.desc).map (fun d => d.parameters.length) = some 1 := by decide +kernel
abbrev mX2_at : AM := (RX2, cX2_at, 2, (Option.some Jvm.ClassFile.FieldType.int), false)
theorem ydX2_at : yX2_at.cls ≠ "java/lang/invoke/MethodHandle" ∧ yX2_at.cls ≠ "java/lang/invoke/VarHandle" ∧ (parseMethodDescriptor yX2_at.desc).map (fun d => d.parameters.length) = some 2 := by decide +kernel
abbrev mX2_put : AM := (RX2, cX2_put, 3, (Option.none : Option Jvm.ClassFile.FieldType), false)
theorem ydX2_put : yX2_put.cls ≠ "java/lang/invoke/MethodHandle" ∧ yX2_put.cls ≠ "java/lang/invoke/VarHandle" ∧ (parseMethodDescriptor yX2_put.desc).map (fun d => d.parameters.length) = some 3 := by decide +kernel
abbrev mX2_copy : AM := (RX2, cX2_copy, 3, (Option.none : Option Jvm.ClassFile.FieldType), false)
theorem ydX2_copy : yX2_copy.cls ≠ "java/lang/invoke/MethodHandle" ∧ yX2_copy.cls ≠ "java/lang/invoke/VarHandle" ∧ (parseMethodDescriptor yX2_copy.desc).map (fun d => d.parameters.length) = some 2 := by decide +kernel
abbrev mX2_clear : AM := (RX2, cX2_clear, 2, (Option.none : Option Jvm.ClassFile.FieldType), false)
theorem ydX2_clear : yX2_clear.cls ≠ "java/lang/invoke/MethodHandle" ∧ yX2_clear.cls ≠ "java/lang/invoke/VarHandle" ∧ (parseMethodDescriptor yX2_clear.desc).map (fun d => d.parameters.length) = some 1 := by decide +kernel
abbrev mX3_init : AM := (RX3, cX3_init, 2, (Option.none : Option Jvm.ClassFile.FieldType), true)
theorem ydX3_init : yX3_init.cls ≠ "java/lang/invoke/MethodHandle" ∧ yX3_init.cls ≠ "java/lang/invoke/VarHandle" ∧ (parseMethodDescriptor yX3_init.desc).map (fun d => d.parameters.length) = some 0 := by decide +kernel
abbrev mX3_push : AM := (RX3, cX3_push, 3, (Option.none : Option Jvm.ClassFile.FieldType), false)
theorem ydX3_push : yX3_push.cls ≠ "java/lang/invoke/MethodHandle" ∧ yX3_push.cls ≠ "java/lang/invoke/VarHandle" ∧ (parseMethodDescriptor yX3_push.desc).map (fun d => d.parameters.length) = some 1 := by decide +kernel
abbrev mX3_popInto : AM := (RX3, cX3_popInto, 4, (Option.none : Option Jvm.ClassFile.FieldType), false)
theorem ydX3_popInto : yX3_popInto.cls ≠ "java/lang/invoke/MethodHandle" ∧ yX3_popInto.cls ≠ "java/lang/invoke/VarHandle" ∧ (parseMethodDescriptor yX3_popInto.desc).map (fun d => d.parameters.length) = some 1 := by decide +kernel
abbrev mX3_stateAt : AM := (RX3, cX3_stateAt, 2, (Option.some (Jvm.ClassFile.FieldType.object "DuctRake$State")), false)
theorem ydX3_stateAt : yX3_stateAt.cls ≠ "java/lang/invoke/MethodHandle" ∧ yX3_stateAt.cls ≠ "java/lang/invoke/VarHandle" ∧ (parseMethodDescriptor yX3_stateAt.desc).map (fun d => d.parameters.length) = some 1 := by decide +kernel
abbrev mX4_init : AM := (RX4, cX4_init, 1, (Option.none : Option Jvm.ClassFile.FieldType), true)
theorem ydX4_init : yX4_init.cls ≠ "java/lang/invoke/MethodHandle" ∧ yX4_init.cls ≠ "java/lang/invoke/VarHandle" ∧ (parseMethodDescriptor yX4_init.desc).map (fun d => d.parameters.length) = some 0 := by decide +kernel
abbrev mX5_init : AM := (RX5, cX5_init, 2, (Option.none : Option Jvm.ClassFile.FieldType), true)
theorem ydX5_init : yX5_init.cls ≠ "java/lang/invoke/MethodHandle" ∧ yX5_init.cls ≠ "java/lang/invoke/VarHandle" ∧ (parseMethodDescriptor yX5_init.desc).map (fun d => d.parameters.length) = some 0 := by decide +kernel
abbrev mX5_become : AM := (RX5, cX5_become, 2, (Option.none : Option Jvm.ClassFile.FieldType), false)
theorem ydX5_become : yX5_become.cls ≠ "java/lang/invoke/MethodHandle" ∧ yX5_become.cls ≠ "java/lang/invoke/VarHandle" ∧ (parseMethodDescriptor yX5_become.desc).map (fun d => d.parameters.length) = some 1 := by decide +kernel
abbrev mX5_putRake : AM := (RX5, cX5_putRake, 3, (Option.none : Option Jvm.ClassFile.FieldType), false)
theorem ydX5_putRake : yX5_putRake.cls ≠ "java/lang/invoke/MethodHandle" ∧ yX5_putRake.cls ≠ "java/lang/invoke/VarHandle" ∧ (parseMethodDescriptor yX5_putRake.desc).map (fun d => d.parameters.length) = some 1 := by decide +kernel
abbrev mX5_clearHole : AM := (RX5, cX5_clearHole, 2, (Option.none : Option Jvm.ClassFile.FieldType), false)
theorem ydX5_clearHole : yX5_clearHole.cls ≠ "java/lang/invoke/MethodHandle" ∧ yX5_clearHole.cls ≠ "java/lang/invoke/VarHandle" ∧ (parseMethodDescriptor yX5_clearHole.desc).map (fun d => d.parameters.length) = some 1 := by decide +kernel
abbrev mX5_workOfCleaning : AM := (RX5, cX5_workOfCleaning, 4, (Option.some Jvm.ClassFile.FieldType.int), false)
theorem ydX5_workOfCleaning : yX5_workOfCleaning.cls ≠ "java/lang/invoke/MethodHandle" ∧ yX5_workOfCleaning.cls ≠ "java/lang/invoke/VarHandle" ∧ (parseMethodDescriptor yX5_workOfCleaning.desc).map (fun d => d.parameters.length) = some 1 := by decide +kernel
abbrev mX5_addHoleWork : AM := (RX5, cX5_addHoleWork, 3, (Option.none : Option Jvm.ClassFile.FieldType), false)
theorem ydX5_addHoleWork : yX5_addHoleWork.cls ≠ "java/lang/invoke/MethodHandle" ∧ yX5_addHoleWork.cls ≠ "java/lang/invoke/VarHandle" ∧ (parseMethodDescriptor yX5_addHoleWork.desc).map (fun d => d.parameters.length) = some 2 := by decide +kernel
abbrev mX5_workOfHoles : AM := (RX5, cX5_workOfHoles, 3, (Option.some Jvm.ClassFile.FieldType.int), false)
theorem ydX5_workOfHoles : yX5_workOfHoles.cls ≠ "java/lang/invoke/MethodHandle" ∧ yX5_workOfHoles.cls ≠ "java/lang/invoke/VarHandle" ∧ (parseMethodDescriptor yX5_workOfHoles.desc).map (fun d => d.parameters.length) = some 0 := by decide +kernel
abbrev mX5_takeReading : AM := (RX5, cX5_takeReading, 3, (Option.none : Option Jvm.ClassFile.FieldType), false)
theorem ydX5_takeReading : yX5_takeReading.cls ≠ "java/lang/invoke/MethodHandle" ∧ yX5_takeReading.cls ≠ "java/lang/invoke/VarHandle" ∧ (parseMethodDescriptor yX5_takeReading.desc).map (fun d => d.parameters.length) = some 2 := by decide +kernel
abbrev mX6_init : AM := (RX6, cX6_init, 1, (Option.none : Option Jvm.ClassFile.FieldType), true)
theorem ydX6_init : yX6_init.cls ≠ "java/lang/invoke/MethodHandle" ∧ yX6_init.cls ≠ "java/lang/invoke/VarHandle" ∧ (parseMethodDescriptor yX6_init.desc).map (fun d => d.parameters.length) = some 0 := by decide +kernel
abbrev mX6_add : AM := (RX6, cX6_add, 2, (Option.none : Option Jvm.ClassFile.FieldType), false)
theorem ydX6_add : yX6_add.cls ≠ "java/lang/invoke/MethodHandle" ∧ yX6_add.cls ≠ "java/lang/invoke/VarHandle" ∧ (parseMethodDescriptor yX6_add.desc).map (fun d => d.parameters.length) = some 1 := by decide +kernel
abbrev mX6_firstWrong : AM := (RX6, cX6_firstWrong, 6, (Option.some Jvm.ClassFile.FieldType.int), false)
theorem ydX6_firstWrong : yX6_firstWrong.cls ≠ "java/lang/invoke/MethodHandle" ∧ yX6_firstWrong.cls ≠ "java/lang/invoke/VarHandle" ∧ (parseMethodDescriptor yX6_firstWrong.desc).map (fun d => d.parameters.length) = some 0 := by decide +kernel
abbrev mX6_tellsReading : AM := (RX6, cX6_tellsReading, 1, (Option.some Jvm.ClassFile.FieldType.boolean), false)
theorem ydX6_tellsReading : yX6_tellsReading.cls ≠ "java/lang/invoke/MethodHandle" ∧ yX6_tellsReading.cls ≠ "java/lang/invoke/VarHandle" ∧ (parseMethodDescriptor yX6_tellsReading.desc).map (fun d => d.parameters.length) = some 0 := by decide +kernel
abbrev mX6_headsInto : AM := (RX6, cX6_headsInto, 6, (Option.some Jvm.ClassFile.FieldType.int), false)
theorem ydX6_headsInto : yX6_headsInto.cls ≠ "java/lang/invoke/MethodHandle" ∧ yX6_headsInto.cls ≠ "java/lang/invoke/VarHandle" ∧ (parseMethodDescriptor yX6_headsInto.desc).map (fun d => d.parameters.length) = some 1 := by decide +kernel
abbrev mX6_isDigit : AM := (RX6, cX6_isDigit, 1, (Option.some Jvm.ClassFile.FieldType.boolean), false)
theorem ydX6_isDigit : yX6_isDigit.cls ≠ "java/lang/invoke/MethodHandle" ∧ yX6_isDigit.cls ≠ "java/lang/invoke/VarHandle" ∧ (parseMethodDescriptor yX6_isDigit.desc).map (fun d => d.parameters.length) = some 1 := by decide +kernel
abbrev mX7_init : AM := (RX7, cX7_init, 1, (Option.none : Option Jvm.ClassFile.FieldType), true)
theorem ydX7_init : yX7_init.cls ≠ "java/lang/invoke/MethodHandle" ∧ yX7_init.cls ≠ "java/lang/invoke/VarHandle" ∧ (parseMethodDescriptor yX7_init.desc).map (fun d => d.parameters.length) = some 0 := by decide +kernel
abbrev mX7_judge : AM := (RX7, cX7_judge, 2, (Option.none : Option Jvm.ClassFile.FieldType), false)
theorem ydX7_judge : yX7_judge.cls ≠ "java/lang/invoke/MethodHandle" ∧ yX7_judge.cls ≠ "java/lang/invoke/VarHandle" ∧ (parseMethodDescriptor yX7_judge.desc).map (fun d => d.parameters.length) = some 1 := by decide +kernel
abbrev mX7_judgeIfRight : AM := (RX7, cX7_judgeIfRight, 4, (Option.none : Option Jvm.ClassFile.FieldType), false)
theorem ydX7_judgeIfRight : yX7_judgeIfRight.cls ≠ "java/lang/invoke/MethodHandle" ∧ yX7_judgeIfRight.cls ≠ "java/lang/invoke/VarHandle" ∧ (parseMethodDescriptor yX7_judgeIfRight.desc).map (fun d => d.parameters.length) = some 3 := by decide +kernel
abbrev mX7_takeMeans : AM := (RX7, cX7_takeMeans, 5, (Option.none : Option Jvm.ClassFile.FieldType), false)
theorem ydX7_takeMeans : yX7_takeMeans.cls ≠ "java/lang/invoke/MethodHandle" ∧ yX7_takeMeans.cls ≠ "java/lang/invoke/VarHandle" ∧ (parseMethodDescriptor yX7_takeMeans.desc).map (fun d => d.parameters.length) = some 1 := by decide +kernel
abbrev mX7_giveReasons : AM := (RX7, cX7_giveReasons, 8, (Option.none : Option Jvm.ClassFile.FieldType), false)
theorem ydX7_giveReasons : yX7_giveReasons.cls ≠ "java/lang/invoke/MethodHandle" ∧ yX7_giveReasons.cls ≠ "java/lang/invoke/VarHandle" ∧ (parseMethodDescriptor yX7_giveReasons.desc).map (fun d => d.parameters.length) = some 2 := by decide +kernel
abbrev mX7_reasonFor : AM := (RX7, cX7_reasonFor, 4, (Option.some Jvm.ClassFile.FieldType.int), false)
theorem ydX7_reasonFor : yX7_reasonFor.cls ≠ "java/lang/invoke/MethodHandle" ∧ yX7_reasonFor.cls ≠ "java/lang/invoke/VarHandle" ∧ (parseMethodDescriptor yX7_reasonFor.desc).map (fun d => d.parameters.length) = some 3 := by decide +kernel
abbrev mX7_tellSpeeds : AM := (RX7, cX7_tellSpeeds, 4, (Option.none : Option Jvm.ClassFile.FieldType), false)
theorem ydX7_tellSpeeds : yX7_tellSpeeds.cls ≠ "java/lang/invoke/MethodHandle" ∧ yX7_tellSpeeds.cls ≠ "java/lang/invoke/VarHandle" ∧ (parseMethodDescriptor yX7_tellSpeeds.desc).map (fun d => d.parameters.length) = some 0 := by decide +kernel
abbrev mX7_mended : AM := (RX7, cX7_mended, 2, (Option.some Jvm.ClassFile.FieldType.int), false)
theorem ydX7_mended : yX7_mended.cls ≠ "java/lang/invoke/MethodHandle" ∧ yX7_mended.cls ≠ "java/lang/invoke/VarHandle" ∧ (parseMethodDescriptor yX7_mended.desc).map (fun d => d.parameters.length) = some 2 := by decide +kernel
abbrev mX7_flowOfRings : AM := (RX7, cX7_flowOfRings, 5, (Option.some Jvm.ClassFile.FieldType.int), false)
theorem ydX7_flowOfRings : yX7_flowOfRings.cls ≠ "java/lang/invoke/MethodHandle" ∧ yX7_flowOfRings.cls ≠ "java/lang/invoke/VarHandle" ∧ (parseMethodDescriptor yX7_flowOfRings.desc).map (fun d => d.parameters.length) = some 2 := by decide +kernel
abbrev mX7_countOfReason : AM := (RX7, cX7_countOfReason, 4, (Option.some Jvm.ClassFile.FieldType.int), false)
theorem ydX7_countOfReason : yX7_countOfReason.cls ≠ "java/lang/invoke/MethodHandle" ∧ yX7_countOfReason.cls ≠ "java/lang/invoke/VarHandle" ∧ (parseMethodDescriptor yX7_countOfReason.desc).map (fun d => d.parameters.length) = some 1 := by decide +kernel
abbrev mX7_leastByGreatest : AM := (RX7, cX7_leastByGreatest, 4, (Option.some Jvm.ClassFile.FieldType.double), false)
theorem ydX7_leastByGreatest : yX7_leastByGreatest.cls ≠ "java/lang/invoke/MethodHandle" ∧ yX7_leastByGreatest.cls ≠ "java/lang/invoke/VarHandle" ∧ (parseMethodDescriptor yX7_leastByGreatest.desc).map (fun d => d.parameters.length) = some 0 := by decide +kernel
abbrev mX8_distance : AM := (RX8, cX8_distance, 3, (Option.some Jvm.ClassFile.FieldType.int), false)
theorem ydX8_distance : yX8_distance.cls ≠ "java/lang/invoke/MethodHandle" ∧ yX8_distance.cls ≠ "java/lang/invoke/VarHandle" ∧ (parseMethodDescriptor yX8_distance.desc).map (fun d => d.parameters.length) = some 3 := by decide +kernel
abbrev mX8_speedAt : AM := (RX8, cX8_speedAt, 7, (Option.some Jvm.ClassFile.FieldType.int), false)
theorem ydX8_speedAt : yX8_speedAt.cls ≠ "java/lang/invoke/MethodHandle" ∧ yX8_speedAt.cls ≠ "java/lang/invoke/VarHandle" ∧ (parseMethodDescriptor yX8_speedAt.desc).map (fun d => d.parameters.length) = some 3 := by decide +kernel
abbrev mX8_headAt : AM := (RX8, cX8_headAt, 3, (Option.some Jvm.ClassFile.FieldType.int), false)
theorem ydX8_headAt : yX8_headAt.cls ≠ "java/lang/invoke/MethodHandle" ∧ yX8_headAt.cls ≠ "java/lang/invoke/VarHandle" ∧ (parseMethodDescriptor yX8_headAt.desc).map (fun d => d.parameters.length) = some 2 := by decide +kernel
abbrev mX8_feltAt : AM := (RX8, cX8_feltAt, 4, (Option.some Jvm.ClassFile.FieldType.int), false)
theorem ydX8_feltAt : yX8_feltAt.cls ≠ "java/lang/invoke/MethodHandle" ∧ yX8_feltAt.cls ≠ "java/lang/invoke/VarHandle" ∧ (parseMethodDescriptor yX8_feltAt.desc).map (fun d => d.parameters.length) = some 3 := by decide +kernel
abbrev mX8_whole : AM := (RX8, cX8_whole, 4, (Option.some Jvm.ClassFile.FieldType.int), false)
theorem ydX8_whole : yX8_whole.cls ≠ "java/lang/invoke/MethodHandle" ∧ yX8_whole.cls ≠ "java/lang/invoke/VarHandle" ∧ (parseMethodDescriptor yX8_whole.desc).map (fun d => d.parameters.length) = some 2 := by decide +kernel
abbrev mX8_flowOfRing : AM := (RX8, cX8_flowOfRing, 3, (Option.some Jvm.ClassFile.FieldType.int), false)
theorem ydX8_flowOfRing : yX8_flowOfRing.cls ≠ "java/lang/invoke/MethodHandle" ∧ yX8_flowOfRing.cls ≠ "java/lang/invoke/VarHandle" ∧ (parseMethodDescriptor yX8_flowOfRing.desc).map (fun d => d.parameters.length) = some 3 := by decide +kernel
abbrev mX9_init : AM := (RX9, cX9_init, 1, (Option.none : Option Jvm.ClassFile.FieldType), true)
theorem ydX9_init : yX9_init.cls ≠ "java/lang/invoke/MethodHandle" ∧ yX9_init.cls ≠ "java/lang/invoke/VarHandle" ∧ (parseMethodDescriptor yX9_init.desc).map (fun d => d.parameters.length) = some 0 := by decide +kernel
abbrev mX9_rake : AM := (RX9, cX9_rake, 3, (Option.some Jvm.ClassFile.FieldType.int), false)
theorem ydX9_rake : yX9_rake.cls ≠ "java/lang/invoke/MethodHandle" ∧ yX9_rake.cls ≠ "java/lang/invoke/VarHandle" ∧ (parseMethodDescriptor yX9_rake.desc).map (fun d => d.parameters.length) = some 1 := by decide +kernel
abbrev mX9_radius : AM := (RX9, cX9_radius, 3, (Option.some Jvm.ClassFile.FieldType.int), false)
theorem ydX9_radius : yX9_radius.cls ≠ "java/lang/invoke/MethodHandle" ∧ yX9_radius.cls ≠ "java/lang/invoke/VarHandle" ∧ (parseMethodDescriptor yX9_radius.desc).map (fun d => d.parameters.length) = some 1 := by decide +kernel
abbrev mX9_block : AM := (RX9, cX9_block, 4, (Option.some Jvm.ClassFile.FieldType.int), false)
theorem ydX9_block : yX9_block.cls ≠ "java/lang/invoke/MethodHandle" ∧ yX9_block.cls ≠ "java/lang/invoke/VarHandle" ∧ (parseMethodDescriptor yX9_block.desc).map (fun d => d.parameters.length) = some 2 := by decide +kernel
abbrev mX9_leak : AM := (RX9, cX9_leak, 4, (Option.some Jvm.ClassFile.FieldType.int), false)
theorem ydX9_leak : yX9_leak.cls ≠ "java/lang/invoke/MethodHandle" ∧ yX9_leak.cls ≠ "java/lang/invoke/VarHandle" ∧ (parseMethodDescriptor yX9_leak.desc).map (fun d => d.parameters.length) = some 2 := by decide +kernel
abbrev mX9_clean : AM := (RX9, cX9_clean, 3, (Option.some Jvm.ClassFile.FieldType.int), false)
theorem ydX9_clean : yX9_clean.cls ≠ "java/lang/invoke/MethodHandle" ∧ yX9_clean.cls ≠ "java/lang/invoke/VarHandle" ∧ (parseMethodDescriptor yX9_clean.desc).map (fun d => d.parameters.length) = some 1 := by decide +kernel
abbrev mX9_test : AM := (RX9, cX9_test, 4, (Option.some Jvm.ClassFile.FieldType.int), false)
theorem ydX9_test : yX9_test.cls ≠ "java/lang/invoke/MethodHandle" ∧ yX9_test.cls ≠ "java/lang/invoke/VarHandle" ∧ (parseMethodDescriptor yX9_test.desc).map (fun d => d.parameters.length) = some 1 := by decide +kernel
abbrev mX9_read : AM := (RX9, cX9_read, 2, (Option.some Jvm.ClassFile.FieldType.int), false)
theorem ydX9_read : yX9_read.cls ≠ "java/lang/invoke/MethodHandle" ∧ yX9_read.cls ≠ "java/lang/invoke/VarHandle" ∧ (parseMethodDescriptor yX9_read.desc).map (fun d => d.parameters.length) = some 0 := by decide +kernel
abbrev mX9_drop : AM := (RX9, cX9_drop, 2, (Option.some Jvm.ClassFile.FieldType.int), false)
theorem ydX9_drop : yX9_drop.cls ≠ "java/lang/invoke/MethodHandle" ∧ yX9_drop.cls ≠ "java/lang/invoke/VarHandle" ∧ (parseMethodDescriptor yX9_drop.desc).map (fun d => d.parameters.length) = some 1 := by decide +kernel
abbrev mX9_set : AM := (RX9, cX9_set, 4, (Option.some Jvm.ClassFile.FieldType.int), false)
theorem ydX9_set : yX9_set.cls ≠ "java/lang/invoke/MethodHandle" ∧ yX9_set.cls ≠ "java/lang/invoke/VarHandle" ∧ (parseMethodDescriptor yX9_set.desc).map (fun d => d.parameters.length) = some 2 := by decide +kernel
abbrev mX9_append : AM := (RX9, cX9_append, 2, (Option.some Jvm.ClassFile.FieldType.int), false)
theorem ydX9_append : yX9_append.cls ≠ "java/lang/invoke/MethodHandle" ∧ yX9_append.cls ≠ "java/lang/invoke/VarHandle" ∧ (parseMethodDescriptor yX9_append.desc).map (fun d => d.parameters.length) = some 1 := by decide +kernel
abbrev mX9_clearBuffer : AM := (RX9, cX9_clearBuffer, 2, (Option.some Jvm.ClassFile.FieldType.int), false)
theorem ydX9_clearBuffer : yX9_clearBuffer.cls ≠ "java/lang/invoke/MethodHandle" ∧ yX9_clearBuffer.cls ≠ "java/lang/invoke/VarHandle" ∧ (parseMethodDescriptor yX9_clearBuffer.desc).map (fun d => d.parameters.length) = some 0 := by decide +kernel
abbrev mX9_load : AM := (RX9, cX9_load, 2, (Option.some Jvm.ClassFile.FieldType.int), false)
theorem ydX9_load : yX9_load.cls ≠ "java/lang/invoke/MethodHandle" ∧ yX9_load.cls ≠ "java/lang/invoke/VarHandle" ∧ (parseMethodDescriptor yX9_load.desc).map (fun d => d.parameters.length) = some 0 := by decide +kernel
abbrev mX9_keep : AM := (RX9, cX9_keep, 3, (Option.some Jvm.ClassFile.FieldType.int), false)
theorem ydX9_keep : yX9_keep.cls ≠ "java/lang/invoke/MethodHandle" ∧ yX9_keep.cls ≠ "java/lang/invoke/VarHandle" ∧ (parseMethodDescriptor yX9_keep.desc).map (fun d => d.parameters.length) = some 1 := by decide +kernel
abbrev mX9_goBack : AM := (RX9, cX9_goBack, 3, (Option.some Jvm.ClassFile.FieldType.int), false)
theorem ydX9_goBack : yX9_goBack.cls ≠ "java/lang/invoke/MethodHandle" ∧ yX9_goBack.cls ≠ "java/lang/invoke/VarHandle" ∧ (parseMethodDescriptor yX9_goBack.desc).map (fun d => d.parameters.length) = some 1 := by decide +kernel
abbrev mX9_undo : AM := (RX9, cX9_undo, 1, (Option.some Jvm.ClassFile.FieldType.int), false)
theorem ydX9_undo : yX9_undo.cls ≠ "java/lang/invoke/MethodHandle" ∧ yX9_undo.cls ≠ "java/lang/invoke/VarHandle" ∧ (parseMethodDescriptor yX9_undo.desc).map (fun d => d.parameters.length) = some 0 := by decide +kernel
abbrev mX9_hole : AM := (RX9, cX9_hole, 3, (Option.some Jvm.ClassFile.FieldType.int), false)
theorem ydX9_hole : yX9_hole.cls ≠ "java/lang/invoke/MethodHandle" ∧ yX9_hole.cls ≠ "java/lang/invoke/VarHandle" ∧ (parseMethodDescriptor yX9_hole.desc).map (fun d => d.parameters.length) = some 2 := by decide +kernel
abbrev mX9_reading : AM := (RX9, cX9_reading, 3, (Option.some Jvm.ClassFile.FieldType.int), false)
theorem ydX9_reading : yX9_reading.cls ≠ "java/lang/invoke/MethodHandle" ∧ yX9_reading.cls ≠ "java/lang/invoke/VarHandle" ∧ (parseMethodDescriptor yX9_reading.desc).map (fun d => d.parameters.length) = some 2 := by decide +kernel
abbrev mX9_flow : AM := (RX9, cX9_flow, 2, (Option.some Jvm.ClassFile.FieldType.int), false)
theorem ydX9_flow : yX9_flow.cls ≠ "java/lang/invoke/MethodHandle" ∧ yX9_flow.cls ≠ "java/lang/invoke/VarHandle" ∧ (parseMethodDescriptor yX9_flow.desc).map (fun d => d.parameters.length) = some 1 := by decide +kernel
abbrev mX9_count : AM := (RX9, cX9_count, 2, (Option.some Jvm.ClassFile.FieldType.int), false)
theorem ydX9_count : yX9_count.cls ≠ "java/lang/invoke/MethodHandle" ∧ yX9_count.cls ≠ "java/lang/invoke/VarHandle" ∧ (parseMethodDescriptor yX9_count.desc).map (fun d => d.parameters.length) = some 1 := by decide +kernel
abbrev mX9_setting : AM := (RX9, cX9_setting, 2, (Option.some Jvm.ClassFile.FieldType.int), false)
theorem ydX9_setting : yX9_setting.cls ≠ "java/lang/invoke/MethodHandle" ∧ yX9_setting.cls ≠ "java/lang/invoke/VarHandle" ∧ (parseMethodDescriptor yX9_setting.desc).map (fun d => d.parameters.length) = some 1 := by decide +kernel
abbrev mX9_worst : AM := (RX9, cX9_worst, 1, (Option.some Jvm.ClassFile.FieldType.int), false)
theorem ydX9_worst : yX9_worst.cls ≠ "java/lang/invoke/MethodHandle" ∧ yX9_worst.cls ≠ "java/lang/invoke/VarHandle" ∧ (parseMethodDescriptor yX9_worst.desc).map (fun d => d.parameters.length) = some 0 := by decide +kernel
abbrev mX9_ifRake : AM := (RX9, cX9_ifRake, 2, (Option.some Jvm.ClassFile.FieldType.int), false)
theorem ydX9_ifRake : yX9_ifRake.cls ≠ "java/lang/invoke/MethodHandle" ∧ yX9_ifRake.cls ≠ "java/lang/invoke/VarHandle" ∧ (parseMethodDescriptor yX9_ifRake.desc).map (fun d => d.parameters.length) = some 1 := by decide +kernel
abbrev mX9_fineRake : AM := (RX9, cX9_fineRake, 2, (Option.some Jvm.ClassFile.FieldType.int), false)
theorem ydX9_fineRake : yX9_fineRake.cls ≠ "java/lang/invoke/MethodHandle" ∧ yX9_fineRake.cls ≠ "java/lang/invoke/VarHandle" ∧ (parseMethodDescriptor yX9_fineRake.desc).map (fun d => d.parameters.length) = some 1 := by decide +kernel
abbrev mX9_evenness : AM := (RX9, cX9_evenness, 1, (Option.some Jvm.ClassFile.FieldType.double), false)
theorem ydX9_evenness : yX9_evenness.cls ≠ "java/lang/invoke/MethodHandle" ∧ yX9_evenness.cls ≠ "java/lang/invoke/VarHandle" ∧ (parseMethodDescriptor yX9_evenness.desc).map (fun d => d.parameters.length) = some 0 := by decide +kernel
abbrev mX9_isNoRake : AM := (RX9, cX9_isNoRake, 1, (Option.some Jvm.ClassFile.FieldType.boolean), false)
theorem ydX9_isNoRake : yX9_isNoRake.cls ≠ "java/lang/invoke/MethodHandle" ∧ yX9_isNoRake.cls ≠ "java/lang/invoke/VarHandle" ∧ (parseMethodDescriptor yX9_isNoRake.desc).map (fun d => d.parameters.length) = some 1 := by decide +kernel
abbrev mX9_isNoSetting : AM := (RX9, cX9_isNoSetting, 1, (Option.some Jvm.ClassFile.FieldType.boolean), false)
theorem ydX9_isNoSetting : yX9_isNoSetting.cls ≠ "java/lang/invoke/MethodHandle" ∧ yX9_isNoSetting.cls ≠ "java/lang/invoke/VarHandle" ∧ (parseMethodDescriptor yX9_isNoSetting.desc).map (fun d => d.parameters.length) = some 1 := by decide +kernel
abbrev mX9_isNoSlot : AM := (RX9, cX9_isNoSlot, 1, (Option.some Jvm.ClassFile.FieldType.boolean), false)
theorem ydX9_isNoSlot : yX9_isNoSlot.cls ≠ "java/lang/invoke/MethodHandle" ∧ yX9_isNoSlot.cls ≠ "java/lang/invoke/VarHandle" ∧ (parseMethodDescriptor yX9_isNoSlot.desc).map (fun d => d.parameters.length) = some 1 := by decide +kernel
abbrev mX9_isNoHole : AM := (RX9, cX9_isNoHole, 2, (Option.some Jvm.ClassFile.FieldType.boolean), false)
theorem ydX9_isNoHole : yX9_isNoHole.cls ≠ "java/lang/invoke/MethodHandle" ∧ yX9_isNoHole.cls ≠ "java/lang/invoke/VarHandle" ∧ (parseMethodDescriptor yX9_isNoHole.desc).map (fun d => d.parameters.length) = some 1 := by decide +kernel
abbrev mX9_isNoReading : AM := (RX9, cX9_isNoReading, 2, (Option.some Jvm.ClassFile.FieldType.boolean), false)
theorem ydX9_isNoReading : yX9_isNoReading.cls ≠ "java/lang/invoke/MethodHandle" ∧ yX9_isNoReading.cls ≠ "java/lang/invoke/VarHandle" ∧ (parseMethodDescriptor yX9_isNoReading.desc).map (fun d => d.parameters.length) = some 1 := by decide +kernel
abbrev mX9_slotOf : AM := (RX9, cX9_slotOf, 2, (Option.some (Jvm.ClassFile.FieldType.object "DuctRake$Slot")), false)
theorem ydX9_slotOf : yX9_slotOf.cls ≠ "java/lang/invoke/MethodHandle" ∧ yX9_slotOf.cls ≠ "java/lang/invoke/VarHandle" ∧ (parseMethodDescriptor yX9_slotOf.desc).map (fun d => d.parameters.length) = some 1 := by decide +kernel
abbrev mX9_holeValue : AM := (RX9, cX9_holeValue, 4, (Option.some Jvm.ClassFile.FieldType.int), false)
theorem ydX9_holeValue : yX9_holeValue.cls ≠ "java/lang/invoke/MethodHandle" ∧ yX9_holeValue.cls ≠ "java/lang/invoke/VarHandle" ∧ (parseMethodDescriptor yX9_holeValue.desc).map (fun d => d.parameters.length) = some 3 := by decide +kernel
abbrev mX9_readingValue : AM := (RX9, cX9_readingValue, 4, (Option.some Jvm.ClassFile.FieldType.int), false)
theorem ydX9_readingValue : yX9_readingValue.cls ≠ "java/lang/invoke/MethodHandle" ∧ yX9_readingValue.cls ≠ "java/lang/invoke/VarHandle" ∧ (parseMethodDescriptor yX9_readingValue.desc).map (fun d => d.parameters.length) = some 2 := by decide +kernel
abbrev mX9_flowValue : AM := (RX9, cX9_flowValue, 4, (Option.some Jvm.ClassFile.FieldType.int), false)
theorem ydX9_flowValue : yX9_flowValue.cls ≠ "java/lang/invoke/MethodHandle" ∧ yX9_flowValue.cls ≠ "java/lang/invoke/VarHandle" ∧ (parseMethodDescriptor yX9_flowValue.desc).map (fun d => d.parameters.length) = some 2 := by decide +kernel
abbrev mX9_countValue : AM := (RX9, cX9_countValue, 3, (Option.some Jvm.ClassFile.FieldType.int), false)
theorem ydX9_countValue : yX9_countValue.cls ≠ "java/lang/invoke/MethodHandle" ∧ yX9_countValue.cls ≠ "java/lang/invoke/VarHandle" ∧ (parseMethodDescriptor yX9_countValue.desc).map (fun d => d.parameters.length) = some 2 := by decide +kernel
abbrev mX9_wholeIfRight : AM := (RX9, cX9_wholeIfRight, 2, (Option.some Jvm.ClassFile.FieldType.int), false)
theorem ydX9_wholeIfRight : yX9_wholeIfRight.cls ≠ "java/lang/invoke/MethodHandle" ∧ yX9_wholeIfRight.cls ≠ "java/lang/invoke/VarHandle" ∧ (parseMethodDescriptor yX9_wholeIfRight.desc).map (fun d => d.parameters.length) = some 1 := by decide +kernel
abbrev mX9_worstHole : AM := (RX9, cX9_worstHole, 8, (Option.some Jvm.ClassFile.FieldType.int), false)
theorem ydX9_worstHole : yX9_worstHole.cls ≠ "java/lang/invoke/MethodHandle" ∧ yX9_worstHole.cls ≠ "java/lang/invoke/VarHandle" ∧ (parseMethodDescriptor yX9_worstHole.desc).map (fun d => d.parameters.length) = some 1 := by decide +kernel
abbrev mX9_fewestHoles : AM := (RX9, cX9_fewestHoles, 4, (Option.some Jvm.ClassFile.FieldType.int), false)
theorem ydX9_fewestHoles : yX9_fewestHoles.cls ≠ "java/lang/invoke/MethodHandle" ∧ yX9_fewestHoles.cls ≠ "java/lang/invoke/VarHandle" ∧ (parseMethodDescriptor yX9_fewestHoles.desc).map (fun d => d.parameters.length) = some 1 := by decide +kernel
abbrev mL_cell : AM := (RL, cL_cell, 2, (Option.some Jvm.ClassFile.FieldType.int), false)
theorem ydL_cell : yL_cell.cls ≠ "java/lang/invoke/MethodHandle" ∧ yL_cell.cls ≠ "java/lang/invoke/VarHandle" ∧ (parseMethodDescriptor yL_cell.desc).map (fun d => d.parameters.length) = some 2 := by decide +kernel
abbrev mL_low : AM := (RL, cL_low, 2, (Option.some Jvm.ClassFile.FieldType.int), false)
theorem ydL_low : yL_low.cls ≠ "java/lang/invoke/MethodHandle" ∧ yL_low.cls ≠ "java/lang/invoke/VarHandle" ∧ (parseMethodDescriptor yL_low.desc).map (fun d => d.parameters.length) = some 2 := by decide +kernel
abbrev mL_told : AM := (RL, cL_told, 5, (Option.some Jvm.ClassFile.FieldType.long), false)
theorem ydL_told : yL_told.cls ≠ "java/lang/invoke/MethodHandle" ∧ yL_told.cls ≠ "java/lang/invoke/VarHandle" ∧ (parseMethodDescriptor yL_told.desc).map (fun d => d.parameters.length) = some 1 := by decide +kernel
abbrev mL_act : AM := (RL, cL_act, 6, (Option.some Jvm.ClassFile.FieldType.int), false)
theorem ydL_act : yL_act.cls ≠ "java/lang/invoke/MethodHandle" ∧ yL_act.cls ≠ "java/lang/invoke/VarHandle" ∧ (parseMethodDescriptor yL_act.desc).map (fun d => d.parameters.length) = some 3 := by decide +kernel
abbrev mL_holds : AM := (RL, cL_holds, 12, (Option.some Jvm.ClassFile.FieldType.boolean), false)
theorem ydL_holds : yL_holds.cls ≠ "java/lang/invoke/MethodHandle" ∧ yL_holds.cls ≠ "java/lang/invoke/VarHandle" ∧ (parseMethodDescriptor yL_holds.desc).map (fun d => d.parameters.length) = some 1 := by decide +kernel
theorem gc_L_87 : GoodIn aw_all (wsM yX9_init mX9_init) := good_I wc_X9_init
theorem gc_X9_9 : GoodIn aw_all (wsM yX5_init mX5_init) := good_I wc_X5_init
theorem gc_X5_44 : GoodIn aw_all (wsM yX1_init mX1_init) := good_I wc_X1_init
theorem gc_X9_18 : GoodIn aw_all (wsM yX3_init mX3_init) := good_I wc_X3_init
theorem gc_X3_17 : GoodIn aw_all (wsM yX5_init mX5_init) := good_I wc_X5_init
theorem gc_X9_25 : GoodIn aw_all (wsM yX4_init mX4_init) := good_I wc_X4_init
theorem gc_X4_9 : GoodIn aw_all (wsM yX5_init mX5_init) := good_I wc_X5_init
theorem gc_X9_35 : GoodIn aw_all (wsM yX6_init mX6_init) := good_I wc_X6_init
theorem gc_X9_42 : GoodIn aw_all (wsM yX7_init mX7_init) := good_I wc_X7_init
theorem gc_L_92 : GoodIn aw_all (wsV RL 92 RX9 yX9_keep (wsM yX9_keep mX9_keep)) := good_V wl_L_92 wi_X9_keep ws9_X9_keep wn_X9 wc_X9_keep
theorem gc_X9_195 : GoodIn aw_all (va_wsS RX9 195 yX9_isNoSlot (wsM yX9_isNoSlot mX9_isNoSlot)) := good_S wl_X9_195 wt_X9_isNoSlot wn_X9 wc_X9_isNoSlot
theorem gc_X9_200 : GoodIn aw_all (wsV RX9 200 RX9 yX9_slotOf (wsM yX9_slotOf mX9_slotOf)) := good_V wl_X9_200 wi_X9_slotOf ws9_X9_slotOf wn_X9 wc_X9_slotOf
theorem gc_X9_207 : GoodIn aw_all (wsV RX9 207 RX5 yX5_become (wsM yX5_become mX5_become)) := good_V wl_X9_207 wi_X5_become ws9_X5_become wn_X5 wc_X5_become
theorem gc_X5_49 : GoodIn aw_all (va_wsS RX5 49 yX2_copy (wsM yX2_copy mX2_copy)) := good_S wl_X5_49 wt_X2_copy wn_X2 wc_X2_copy
theorem gc_X5_55 : GoodIn aw_all (wsV RX5 55 RX1 yX1_become (wsM yX1_become mX1_become)) := good_V wl_X5_55 wi_X1_become ws9_X1_become wn_X1 wc_X1_become
theorem gc_X1_21 : GoodIn aw_all (va_wsS RX1 21 yX2_copy (wsM yX2_copy mX2_copy)) := good_S wl_X1_21 wt_X2_copy wn_X2 wc_X2_copy
theorem gc_L_110 : GoodIn aw_all (wsV RL 110 RX9 yX9_goBack (wsM yX9_goBack mX9_goBack)) := good_V wl_L_110 wi_X9_goBack ws9_X9_goBack wn_X9 wc_X9_goBack
theorem gc_X9_65 : GoodIn aw_all (wsV RX9 65 RX3 yX3_push (wsM yX3_push mX3_push)) := good_V wl_X9_65 wi_X3_push ws9_X3_push wn_X3 wc_X3_push
theorem gc_X3_22 : GoodIn aw_all (wsV RX3 22 RX3 yX3_stateAt (wsM yX3_stateAt mX3_stateAt)) := good_V wl_X3_22 wi_X3_stateAt ws9_X3_stateAt wn_X3 wc_X3_stateAt
theorem gc_X3_26 : GoodIn aw_all (wsV RX3 26 RX5 yX5_become (wsM yX5_become mX5_become)) := good_V wl_X3_26 wi_X5_become ws9_X5_become wn_X5 wc_X5_become
theorem gc_L_99 : GoodIn aw_all (wsV RL 99 RX9 yX9_undo (wsM yX9_undo mX9_undo)) := good_V wl_L_99 wi_X9_undo ws9_X9_undo wn_X9 wc_X9_undo
theorem gc_X9_219 : GoodIn aw_all (wsV RX9 219 RX3 yX3_popInto (wsM yX3_popInto mX3_popInto)) := good_V wl_X9_219 wi_X3_popInto ws9_X3_popInto wn_X3 wc_X3_popInto
theorem gc_L_12 : GoodIn aw_all (wsV RL 12 RX9 yX9_count (wsM yX9_count mX9_count)) := good_V wl_L_12 wi_X9_count ws9_X9_count wn_X9 wc_X9_count
theorem gc_X9_224 : GoodIn aw_all (wsV RX9 224 RX7 yX7_judge (wsM yX7_judge mX7_judge)) := good_V wl_X9_224 wi_X7_judge ws9_X7_judge wn_X7 wc_X7_judge
theorem gc_X7_21 : GoodIn aw_all (wsV RX7 21 RX7 yX7_takeMeans (wsM yX7_takeMeans mX7_takeMeans)) := good_V wl_X7_21 wi_X7_takeMeans ws9_X7_takeMeans wn_X7 wc_X7_takeMeans
theorem gc_X7_52 : GoodIn aw_all (va_wsS RX7 52 yX2_clear (wsM yX2_clear mX2_clear)) := good_S wl_X7_52 wt_X2_clear wn_X2 wc_X2_clear
theorem gc_X7_65 : GoodIn aw_all (wsV RX7 65 RX1 yX1_isCounting (wsM yX1_isCounting mX1_isCounting)) := good_V wl_X7_65 wi_X1_isCounting ws9_X1_isCounting wn_X1 wc_X1_isCounting
theorem gc_X1_31 : GoodIn aw_all (va_wsS RX1 31 yX2_at (wsM yX2_at mX2_at)) := good_S wl_X1_31 wt_X2_at wn_X2 wc_X2_at
theorem gc_X7_69 : GoodIn aw_all (va_wsS RX7 69 yX2_at (wsM yX2_at mX2_at)) := good_S wl_X7_69 wt_X2_at wn_X2 wc_X2_at
theorem gc_X7_73 : GoodIn aw_all (wsV RX7 73 RX1 yX1_headOf (wsM yX1_headOf mX1_headOf)) := good_V wl_X7_73 wi_X1_headOf ws9_X1_headOf wn_X1 wc_X1_headOf
theorem gc_X7_32 : GoodIn aw_all (va_wsS RX7 32 yX2_put (wsM yX2_put mX2_put)) := good_S wl_X7_32 wt_X2_put wn_X2 wc_X2_put
theorem gc_X7_77 : GoodIn aw_all (va_wsS RX7 77 yX0_quotient (wsM yX0_quotient mX0_quotient)) := good_S wl_X7_77 wt_X0_quotient wn_X0 wc_X0_quotient
theorem gc_X7_25 : GoodIn aw_all (wsV RX7 25 RX7 yX7_giveReasons (wsM yX7_giveReasons mX7_giveReasons)) := good_V wl_X7_25 wi_X7_giveReasons ws9_X7_giveReasons wn_X7 wc_X7_giveReasons
theorem gc_X7_96 : GoodIn aw_all (wsV RX7 96 RX7 yX7_reasonFor (wsM yX7_reasonFor mX7_reasonFor)) := good_V wl_X7_96 wi_X7_reasonFor ws9_X7_reasonFor wn_X7 wc_X7_reasonFor
theorem gc_X7_29 : GoodIn aw_all (wsV RX7 29 RX7 yX7_tellSpeeds (wsM yX7_tellSpeeds mX7_tellSpeeds)) := good_V wl_X7_29 wi_X7_tellSpeeds ws9_X7_tellSpeeds wn_X7 wc_X7_tellSpeeds
theorem gc_X7_100 : GoodIn aw_all (va_wsS RX7 100 yX0_wholeRoot (wsM yX0_wholeRoot mX0_wholeRoot)) := good_S wl_X7_100 wt_X0_wholeRoot wn_X0 wc_X0_wholeRoot
theorem gc_X7_104 : GoodIn aw_all (va_wsS RX7 104 yX7_mended (wsM yX7_mended mX7_mended)) := good_S wl_X7_104 wt_X7_mended wn_X7 wc_X7_mended
theorem gc_X9_245 : GoodIn aw_all (wsV RX9 245 RX9 yX9_countValue (wsM yX9_countValue mX9_countValue)) := good_V wl_X9_245 wi_X9_countValue ws9_X9_countValue wn_X9 wc_X9_countValue
theorem gc_X9_332 : GoodIn aw_all (wsV RX9 332 RX7 yX7_countOfReason (wsM yX7_countOfReason mX7_countOfReason)) := good_V wl_X9_332 wi_X7_countOfReason ws9_X7_countOfReason wn_X7 wc_X7_countOfReason
theorem gc_X9_341 : GoodIn aw_all (wsV RX9 341 RX5 yX5_workOfHoles (wsM yX5_workOfHoles mX5_workOfHoles)) := good_V wl_X9_341 wi_X5_workOfHoles ws9_X5_workOfHoles wn_X5 wc_X5_workOfHoles
theorem gc_X5_80 : GoodIn aw_all (va_wsS RX5 80 yX2_at (wsM yX2_at mX2_at)) := good_S wl_X5_80 wt_X2_at wn_X2 wc_X2_at
theorem gc_L_95 : GoodIn aw_all (va_wsS RL 95 yL_cell (wsM yL_cell mL_cell)) := good_S wl_L_95 wt_L_cell wn_L wc_L_cell
theorem gc_L_88 : GoodIn aw_all (va_wsS RL 88 yL_told (wsM yL_told mL_told)) := good_S wl_L_88 wt_L_told wn_L wc_L_told
theorem gc_L_18 : GoodIn aw_all (wsV RL 18 RX9 yX9_setting (wsM yX9_setting mX9_setting)) := good_V wl_L_18 wi_X9_setting ws9_X9_setting wn_X9 wc_X9_setting
theorem gc_X9_158 : GoodIn aw_all (va_wsS RX9 158 yX9_isNoSetting (wsM yX9_isNoSetting mX9_isNoSetting)) := good_S wl_X9_158 wt_X9_isNoSetting wn_X9 wc_X9_isNoSetting
theorem gc_X9_95 : GoodIn aw_all (va_wsS RX9 95 yX2_at (wsM yX2_at mX2_at)) := good_S wl_X9_95 wt_X2_at wn_X2 wc_X2_at
theorem gc_L_21 : GoodIn aw_all (wsV RL 21 RX9 yX9_hole (wsM yX9_hole mX9_hole)) := good_V wl_L_21 wi_X9_hole ws9_X9_hole wn_X9 wc_X9_hole
theorem gc_X9_82 : GoodIn aw_all (wsV RX9 82 RX9 yX9_isNoHole (wsM yX9_isNoHole mX9_isNoHole)) := good_V wl_X9_82 wi_X9_isNoHole ws9_X9_isNoHole wn_X9 wc_X9_isNoHole
theorem gc_X9_227 : GoodIn aw_all (wsV RX9 227 RX9 yX9_holeValue (wsM yX9_holeValue mX9_holeValue)) := good_V wl_X9_227 wi_X9_holeValue ws9_X9_holeValue wn_X9 wc_X9_holeValue
theorem gc_X9_291 : GoodIn aw_all (va_wsS RX9 291 yX8_distance (wsM yX8_distance mX8_distance)) := good_S wl_X9_291 wt_X8_distance wn_X8 wc_X8_distance
theorem gc_X8_9 : GoodIn aw_all (va_wsS RX8 9 yX0_quotient (wsM yX0_quotient mX0_quotient)) := good_S wl_X8_9 wt_X0_quotient wn_X0 wc_X0_quotient
theorem gc_X8_15 : GoodIn aw_all (va_wsS RX8 15 yX0_wholeRoot (wsM yX0_wholeRoot mX0_wholeRoot)) := good_S wl_X8_15 wt_X0_wholeRoot wn_X0 wc_X0_wholeRoot
theorem gc_X9_295 : GoodIn aw_all (va_wsS RX9 295 yX8_speedAt (wsM yX8_speedAt mX8_speedAt)) := good_S wl_X9_295 wt_X8_speedAt wn_X8 wc_X8_speedAt
theorem gc_X8_25 : GoodIn aw_all (va_wsS RX8 25 yX8_distance (wsM yX8_distance mX8_distance)) := good_S wl_X8_25 wt_X8_distance wn_X8 wc_X8_distance
theorem gc_X8_35 : GoodIn aw_all (va_wsS RX8 35 yX2_at (wsM yX2_at mX2_at)) := good_S wl_X8_35 wt_X2_at wn_X2 wc_X2_at
theorem gc_X9_127 : GoodIn aw_all (va_wsS RX9 127 yX8_headAt (wsM yX8_headAt mX8_headAt)) := good_S wl_X9_127 wt_X8_headAt wn_X8 wc_X8_headAt
theorem gc_X8_44 : GoodIn aw_all (va_wsS RX8 44 yX8_speedAt (wsM yX8_speedAt mX8_speedAt)) := good_S wl_X8_44 wt_X8_speedAt wn_X8 wc_X8_speedAt
theorem gc_X9_133 : GoodIn aw_all (va_wsS RX9 133 yX8_feltAt (wsM yX8_feltAt mX8_feltAt)) := good_S wl_X9_133 wt_X8_feltAt wn_X8 wc_X8_feltAt
theorem gc_X9_313 : GoodIn aw_all (wsV RX9 313 RX7 yX7_flowOfRings (wsM yX7_flowOfRings mX7_flowOfRings)) := good_V wl_X9_313 wi_X7_flowOfRings ws9_X7_flowOfRings wn_X7 wc_X7_flowOfRings
theorem gc_X7_107 : GoodIn aw_all (va_wsS RX7 107 yX8_flowOfRing (wsM yX8_flowOfRing mX8_flowOfRing)) := good_S wl_X7_107 wt_X8_flowOfRing wn_X8 wc_X8_flowOfRing
theorem gc_L_25 : GoodIn aw_all (wsV RL 25 RX9 yX9_reading (wsM yX9_reading mX9_reading)) := good_V wl_L_25 wi_X9_reading ws9_X9_reading wn_X9 wc_X9_reading
theorem gc_X9_150 : GoodIn aw_all (wsV RX9 150 RX9 yX9_isNoReading (wsM yX9_isNoReading mX9_isNoReading)) := good_V wl_X9_150 wi_X9_isNoReading ws9_X9_isNoReading wn_X9 wc_X9_isNoReading
theorem gc_X9_233 : GoodIn aw_all (wsV RX9 233 RX9 yX9_readingValue (wsM yX9_readingValue mX9_readingValue)) := good_V wl_X9_233 wi_X9_readingValue ws9_X9_readingValue wn_X9 wc_X9_readingValue
theorem gc_X9_325 : GoodIn aw_all (wsV RX9 325 RX1 yX1_isCounting (wsM yX1_isCounting mX1_isCounting)) := good_V wl_X9_325 wi_X1_isCounting ws9_X1_isCounting wn_X1 wc_X1_isCounting
theorem gc_X9_329 : GoodIn aw_all (wsV RX9 329 RX1 yX1_headOf (wsM yX1_headOf mX1_headOf)) := good_V wl_X9_329 wi_X1_headOf ws9_X1_headOf wn_X1 wc_X1_headOf
theorem gc_L_102 : GoodIn aw_all (va_wsS RL 102 yL_act (wsM yL_act mL_act)) := good_S wl_L_102 wt_L_act wn_L wc_L_act
theorem gc_L_28 : GoodIn aw_all (va_wsS RL 28 yL_low (wsM yL_low mL_low)) := good_S wl_L_28 wt_L_low wn_L wc_L_low
theorem gc_L_33 : GoodIn aw_all (wsV RL 33 RX9 yX9_set (wsM yX9_set mX9_set)) := good_V wl_L_33 wi_X9_set ws9_X9_set wn_X9 wc_X9_set
theorem gc_X9_101 : GoodIn aw_all (va_wsS RX9 101 yX2_put (wsM yX2_put mX2_put)) := good_S wl_X9_101 wt_X2_put wn_X2 wc_X2_put
theorem gc_L_36 : GoodIn aw_all (wsV RL 36 RX9 yX9_rake (wsM yX9_rake mX9_rake)) := good_V wl_L_36 wi_X9_rake ws9_X9_rake wn_X9 wc_X9_rake
theorem gc_X9_54 : GoodIn aw_all (va_wsS RX9 54 yX9_isNoRake (wsM yX9_isNoRake mX9_isNoRake)) := good_S wl_X9_54 wt_X9_isNoRake wn_X9 wc_X9_isNoRake
theorem gc_X9_73 : GoodIn aw_all (wsV RX9 73 RX5 yX5_putRake (wsM yX5_putRake mX5_putRake)) := good_V wl_X9_73 wi_X5_putRake ws9_X5_putRake wn_X5 wc_X5_putRake
theorem gc_X5_68 : GoodIn aw_all (wsV RX5 68 RX5 yX5_workOfHoles (wsM yX5_workOfHoles mX5_workOfHoles)) := good_V wl_X5_68 wi_X5_workOfHoles ws9_X5_workOfHoles wn_X5 wc_X5_workOfHoles
theorem gc_X5_72 : GoodIn aw_all (wsV RX5 72 RX5 yX5_clearHole (wsM yX5_clearHole mX5_clearHole)) := good_V wl_X5_72 wi_X5_clearHole ws9_X5_clearHole wn_X5 wc_X5_clearHole
theorem gc_X5_76 : GoodIn aw_all (va_wsS RX5 76 yX2_put (wsM yX2_put mX2_put)) := good_S wl_X5_76 wt_X2_put wn_X2 wc_X2_put
theorem gc_L_39 : GoodIn aw_all (wsV RL 39 RX9 yX9_radius (wsM yX9_radius mX9_radius)) := good_V wl_L_39 wi_X9_radius ws9_X9_radius wn_X9 wc_X9_radius
theorem gc_L_42 : GoodIn aw_all (wsV RL 42 RX9 yX9_block (wsM yX9_block mX9_block)) := good_V wl_L_42 wi_X9_block ws9_X9_block wn_X9 wc_X9_block
theorem gc_L_45 : GoodIn aw_all (wsV RL 45 RX9 yX9_leak (wsM yX9_leak mX9_leak)) := good_V wl_L_45 wi_X9_leak ws9_X9_leak wn_X9 wc_X9_leak
theorem gc_L_48 : GoodIn aw_all (wsV RL 48 RX9 yX9_clean (wsM yX9_clean mX9_clean)) := good_V wl_L_48 wi_X9_clean ws9_X9_clean wn_X9 wc_X9_clean
theorem gc_X9_110 : GoodIn aw_all (wsV RX9 110 RX5 yX5_workOfCleaning (wsM yX5_workOfCleaning mX5_workOfCleaning)) := good_V wl_X9_110 wi_X5_workOfCleaning ws9_X5_workOfCleaning wn_X5 wc_X5_workOfCleaning
theorem gc_X9_114 : GoodIn aw_all (wsV RX9 114 RX5 yX5_clearHole (wsM yX5_clearHole mX5_clearHole)) := good_V wl_X9_114 wi_X5_clearHole ws9_X5_clearHole wn_X5 wc_X5_clearHole
theorem gc_X9_117 : GoodIn aw_all (wsV RX9 117 RX5 yX5_addHoleWork (wsM yX5_addHoleWork mX5_addHoleWork)) := good_V wl_X9_117 wi_X5_addHoleWork ws9_X5_addHoleWork wn_X5 wc_X5_addHoleWork
theorem gc_L_51 : GoodIn aw_all (wsV RL 51 RX9 yX9_test (wsM yX9_test mX9_test)) := good_V wl_L_51 wi_X9_test ws9_X9_test wn_X9 wc_X9_test
theorem gc_L_54 : GoodIn aw_all (wsV RL 54 RX9 yX9_drop (wsM yX9_drop mX9_drop)) := good_V wl_L_54 wi_X9_drop ws9_X9_drop wn_X9 wc_X9_drop
theorem gc_X9_155 : GoodIn aw_all (wsV RX9 155 RX1 yX1_remove (wsM yX1_remove mX1_remove)) := good_V wl_X9_155 wi_X1_remove ws9_X1_remove wn_X1 wc_X1_remove
theorem gc_X1_43 : GoodIn aw_all (wsV RX1 43 RX1 yX1_headOf (wsM yX1_headOf mX1_headOf)) := good_V wl_X1_43 wi_X1_headOf ws9_X1_headOf wn_X1 wc_X1_headOf
theorem gc_X1_39 : GoodIn aw_all (va_wsS RX1 39 yX2_put (wsM yX2_put mX2_put)) := good_S wl_X1_39 wt_X2_put wn_X2 wc_X2_put
theorem gc_L_57 : GoodIn aw_all (wsV RL 57 RX9 yX9_clearBuffer (wsM yX9_clearBuffer mX9_clearBuffer)) := good_V wl_L_57 wi_X9_clearBuffer ws9_X9_clearBuffer wn_X9 wc_X9_clearBuffer
theorem gc_L_61 : GoodIn aw_all (wsV RL 61 RX9 yX9_append (wsM yX9_append mX9_append)) := good_V wl_L_61 wi_X9_append ws9_X9_append wn_X9 wc_X9_append
theorem gc_X9_178 : GoodIn aw_all (wsV RX9 178 RX6 yX6_add (wsM yX6_add mX6_add)) := good_V wl_X9_178 wi_X6_add ws9_X6_add wn_X6 wc_X6_add
theorem gc_X6_19 : GoodIn aw_all (va_wsS RX6 19 yX2_put (wsM yX2_put mX2_put)) := good_S wl_X6_19 wt_X2_put wn_X2 wc_X2_put
theorem gc_L_64 : GoodIn aw_all (wsV RL 64 RX9 yX9_load (wsM yX9_load mX9_load)) := good_V wl_L_64 wi_X9_load ws9_X9_load wn_X9 wc_X9_load
theorem gc_X9_185 : GoodIn aw_all (wsV RX9 185 RX6 yX6_tellsReading (wsM yX6_tellsReading mX6_tellsReading)) := good_V wl_X9_185 wi_X6_tellsReading ws9_X6_tellsReading wn_X6 wc_X6_tellsReading
theorem gc_X6_25 : GoodIn aw_all (va_wsS RX6 25 yX2_at (wsM yX2_at mX2_at)) := good_S wl_X6_25 wt_X2_at wn_X2 wc_X2_at
theorem gc_X6_29 : GoodIn aw_all (va_wsS RX6 29 yX6_isDigit (wsM yX6_isDigit mX6_isDigit)) := good_S wl_X6_29 wt_X6_isDigit wn_X6 wc_X6_isDigit
theorem gc_X6_33 : GoodIn aw_all (wsV RX6 33 RX6 yX6_firstWrong (wsM yX6_firstWrong mX6_firstWrong)) := good_V wl_X6_33 wi_X6_firstWrong ws9_X6_firstWrong wn_X6 wc_X6_firstWrong
theorem gc_X9_191 : GoodIn aw_all (wsV RX9 191 RX6 yX6_headsInto (wsM yX6_headsInto mX6_headsInto)) := good_V wl_X9_191 wi_X6_headsInto ws9_X6_headsInto wn_X6 wc_X6_headsInto
theorem gc_X9_137 : GoodIn aw_all (wsV RX9 137 RX5 yX5_takeReading (wsM yX5_takeReading mX5_takeReading)) := good_V wl_X9_137 wi_X5_takeReading ws9_X5_takeReading wn_X5 wc_X5_takeReading
theorem gc_X5_84 : GoodIn aw_all (wsV RX5 84 RX1 yX1_add (wsM yX1_add mX1_add)) := good_V wl_X5_84 wi_X1_add ws9_X1_add wn_X1 wc_X1_add
theorem gc_X1_35 : GoodIn aw_all (wsV RX1 35 RX1 yX1_remove (wsM yX1_remove mX1_remove)) := good_V wl_X1_35 wi_X1_remove ws9_X1_remove wn_X1 wc_X1_remove
theorem gc_L_67 : GoodIn aw_all (wsV RL 67 RX9 yX9_read (wsM yX9_read mX9_read)) := good_V wl_L_67 wi_X9_read ws9_X9_read wn_X9 wc_X9_read
theorem gc_L_106 : GoodIn aw_all (va_wsS RL 106 yL_holds (wsM yL_holds mL_holds)) := good_S wl_L_106 wt_L_holds wn_L wc_L_holds
theorem gc_L_70 : GoodIn aw_all (wsV RL 70 RX9 yX9_flow (wsM yX9_flow mX9_flow)) := good_V wl_L_70 wi_X9_flow ws9_X9_flow wn_X9 wc_X9_flow
theorem gc_X9_239 : GoodIn aw_all (wsV RX9 239 RX9 yX9_flowValue (wsM yX9_flowValue mX9_flowValue)) := good_V wl_X9_239 wi_X9_flowValue ws9_X9_flowValue wn_X9 wc_X9_flowValue
theorem gc_X9_255 : GoodIn aw_all (va_wsS RX9 255 yX8_whole (wsM yX8_whole mX8_whole)) := good_S wl_X9_255 wt_X8_whole wn_X8 wc_X8_whole
theorem gc_X8_54 : GoodIn aw_all (va_wsS RX8 54 yX8_flowOfRing (wsM yX8_flowOfRing mX8_flowOfRing)) := good_S wl_X8_54 wt_X8_flowOfRing wn_X8 wc_X8_flowOfRing
theorem gc_L_74 : GoodIn aw_all (wsV RL 74 RX9 yX9_worst (wsM yX9_worst mX9_worst)) := good_V wl_L_74 wi_X9_worst ws9_X9_worst wn_X9 wc_X9_worst
theorem gc_X9_251 : GoodIn aw_all (wsV RX9 251 RX9 yX9_worstHole (wsM yX9_worstHole mX9_worstHole)) := good_V wl_X9_251 wi_X9_worstHole ws9_X9_worstHole wn_X9 wc_X9_worstHole
theorem gc_X9_248 : GoodIn aw_all (wsV RX9 248 RX9 yX9_wholeIfRight (wsM yX9_wholeIfRight mX9_wholeIfRight)) := good_V wl_X9_248 wi_X9_wholeIfRight ws9_X9_wholeIfRight wn_X9 wc_X9_wholeIfRight
theorem gc_X9_347 : GoodIn aw_all (wsV RX9 347 RX7 yX7_judgeIfRight (wsM yX7_judgeIfRight mX7_judgeIfRight)) := good_V wl_X9_347 wi_X7_judgeIfRight ws9_X7_judgeIfRight wn_X7 wc_X7_judgeIfRight
theorem gc_L_77 : GoodIn aw_all (wsV RL 77 RX9 yX9_evenness (wsM yX9_evenness mX9_evenness)) := good_V wl_L_77 wi_X9_evenness ws9_X9_evenness wn_X9 wc_X9_evenness
theorem gc_X9_264 : GoodIn aw_all (wsV RX9 264 RX7 yX7_leastByGreatest (wsM yX7_leastByGreatest mX7_leastByGreatest)) := good_V wl_X9_264 wi_X7_leastByGreatest ws9_X7_leastByGreatest wn_X7 wc_X7_leastByGreatest
theorem gc_L_81 : GoodIn aw_all (wsV RL 81 RX9 yX9_ifRake (wsM yX9_ifRake mX9_ifRake)) := good_V wl_L_81 wi_X9_ifRake ws9_X9_ifRake wn_X9 wc_X9_ifRake
theorem gc_L_84 : GoodIn aw_all (wsV RL 84 RX9 yX9_fineRake (wsM yX9_fineRake mX9_fineRake)) := good_V wl_L_84 wi_X9_fineRake ws9_X9_fineRake wn_X9 wc_X9_fineRake
theorem gc_X9_261 : GoodIn aw_all (wsV RX9 261 RX9 yX9_fewestHoles (wsM yX9_fewestHoles mX9_fewestHoles)) := good_V wl_X9_261 wi_X9_fewestHoles ws9_X9_fewestHoles wn_X9 wc_X9_fewestHoles
/-- an exact answer and world -/
def rX (v : Option Value) (σ1 : AS) : AR → AS → Prop := fun r τ => r = .inl v ∧ τ = σ1
theorem rX_i {x y : Int32} {σ1 τ : AS} (h : x = y) (h2 : τ = σ1) : rX (some (.int y)) σ1 (.inl (some (.int x))) τ := ⟨by rw [h], h2⟩
theorem rX_l {x y : Int64} {σ1 τ : AS} (h : x = y) (h2 : τ = σ1) : rX (some (.long y)) σ1 (.inl (some (.long x))) τ := ⟨by rw [h], h2⟩
theorem rX_d {x y : UInt64} {σ1 τ : AS} (h : x = y) (h2 : τ = σ1) : rX (some (.double y)) σ1 (.inl (some (.double x))) τ := ⟨by rw [h], h2⟩
theorem rX_r {x y : Nat} {σ1 τ : AS} (h : x = y) (h2 : τ = σ1) : rX (some (.ref y)) σ1 (.inl (some (.ref x))) τ := ⟨by rw [h], h2⟩
theorem rX_v {σ1 τ : AS} (h2 : τ = σ1) : rX none σ1 (.inl none) τ := ⟨rfl, h2⟩
theorem as_self {σ : AS} {a : Nat} {c0 c : AC} (h : σ[a]? = some c0) : (σ.set a c)[a]? = some c := by
  rw [List.getElem?_set_self (List.getElem?_eq_some_iff.mp h).1]
theorem as_ne {σ : AS} {a k : Nat} {c c1 : AC} (h : σ[k]? = some c) (hne : a ≠ k) : (σ.set a c1)[k]? = some c := by
  rw [List.getElem?_set_ne hne]; exact h
section CALLS2
variable {g : AG} {M : AM} {d pc : Nat} {L : List (Nat × Value)} {st : List Value} {σ : AS} {bc bs : Nat} {Q : AR → AS → Prop}
theorem aw_cs {own : String} {index d' n : Nat} {y : MethodName} {M' : AM} {av rest st' : List Value} {v : Option Value} {σ1 : AS} (hd : decode M.2.1 pc = .ok (.invokestatic index, 3)) (hown : M.1 = own) (ct : CT g y M' d' 0 0 av σ (rX v σ1)) (hdd : d' + 1 ≤ d) (hmax : M'.2.2.1 ≤ 17)
    (hG : GoodIn aw_all (va_wsS own index y (wsM y M'))) (hyd : y.cls ≠ "java/lang/invoke/MethodHandle" ∧ y.cls ≠ "java/lang/invoke/VarHandle" ∧ (parseMethodDescriptor y.desc).map (fun d => d.parameters.length) = some n) (hn : av.length = n) (hst : av.reverse ++ rest = st) (hcat : (rest.map fun v => v.category).sum ≤ 8) (hs' : v.toList ++ rest = st')
    (k : AW g M d (pc + 3) L st' σ1 bc bs Q) : AW g M d pc L st σ bc bs Q :=
  aw_invokestatic hd hown ct hdd hmax hG hyd hn hst hcat (Or.inl rfl) (Nat.zero_add _) (Nat.zero_add _) (fun v' σ' h => by
    obtain ⟨h1, h2⟩ := h
    cases h1; subst h2; rw [hs']; exact k)
theorem aw_cv {own C0 : String} {T : u_T} {N ci index d' n b : Nat} {y : MethodName} {M' : AM} {As rest fs st' : List Value} {v : Option Value} {σ1 : AS} (hd : decode M.2.1 pc = .ok (.invokevirtual index, 3)) (hown : M.1 = own) (hs : σ[b]? = some (ac_o ci fs)) (hc : vwCl[ci]? = some (C0, T, N)) (ct : CT g y M' d' 0 0 (.ref b :: As) σ (rX v σ1)) (hdd : d' + 1 ≤ d) (hmax : M'.2.2.1 ≤ 17)
    (hG : GoodIn aw_all (wsV own index C0 y (wsM y M'))) (hyc : y.cls = C0) (hyd : y.cls ≠ "java/lang/invoke/MethodHandle" ∧ y.cls ≠ "java/lang/invoke/VarHandle" ∧ (parseMethodDescriptor y.desc).map (fun d => d.parameters.length) = some n) (hn : As.length = n) (hst : As.reverse ++ .ref b :: rest = st) (hcat : (rest.map fun v => v.category).sum ≤ 8) (hs' : v.toList ++ rest = st')
    (k : AW g M d (pc + 3) L st' σ1 bc bs Q) : AW g M d pc L st σ bc bs Q :=
  aw_invokevirtual hd hown hs hc ct hdd hmax hG ⟨hyc, hyd⟩ hn hst hcat (Or.inl rfl) (Nat.zero_add _) (Nat.zero_add _) (fun v' σ' h => by
    obtain ⟨h1, h2⟩ := h
    cases h1; subst h2; rw [hs']; exact k)
end CALLS2
