theorem dX9_append_22 : decode cX9_append 22 = .ok (.aload_n 0, 1) := by decide +kernel
theorem dX9_append_23 : decode cX9_append 23 = .ok (.getfield 36, 3) := by decide +kernel
theorem dX9_append_26 : decode cX9_append 26 = .ok (.getfield 170, 3) := by decide +kernel
theorem dX9_append_29 : decode cX9_append 29 = .ok (.bipush 50, 2) := by decide +kernel
theorem dX9_append_31 : decode cX9_append 31 = .ok (.if_icmp .lt 13, 3) := by decide +kernel
theorem dX9_append_34 : decode cX9_append 34 = .ok (.new 173, 3) := by decide +kernel
theorem dX9_append_37 : decode cX9_append 37 = .ok (.dup, 1) := by decide +kernel
theorem dX9_append_38 : decode cX9_append 38 = .ok (.ldc 175, 2) := by decide +kernel
theorem dX9_append_40 : decode cX9_append 40 = .ok (.invokespecial 177, 3) := by decide +kernel
theorem dX9_append_43 : decode cX9_append 43 = .ok (.athrow, 1) := by decide +kernel
theorem dX9_append_44 : decode cX9_append 44 = .ok (.aload_n 0, 1) := by decide +kernel
theorem dX9_append_45 : decode cX9_append 45 = .ok (.getfield 36, 3) := by decide +kernel
theorem dX9_append_48 : decode cX9_append 48 = .ok (.iload_n 1, 1) := by decide +kernel
theorem dX9_append_49 : decode cX9_append 49 = .ok (.invokevirtual 178, 3) := by decide +kernel
theorem dX9_append_52 : decode cX9_append 52 = .ok (.aload_n 0, 1) := by decide +kernel
theorem dX9_append_53 : decode cX9_append 53 = .ok (.getfield 36, 3) := by decide +kernel
theorem dX9_append_56 : decode cX9_append 56 = .ok (.getfield 170, 3) := by decide +kernel
theorem dX9_append_59 : decode cX9_append 59 = .ok (.ireturn, 1) := by decide +kernel
theorem dX9_clearBuffer_0 : decode cX9_clearBuffer 0 = .ok (.aload_n 0, 1) := by decide +kernel
theorem dX9_clearBuffer_1 : decode cX9_clearBuffer 1 = .ok (.getfield 36, 3) := by decide +kernel
theorem dX9_clearBuffer_4 : decode cX9_clearBuffer 4 = .ok (.getfield 170, 3) := by decide +kernel
theorem dX9_clearBuffer_7 : decode cX9_clearBuffer 7 = .ok (.istore_n 1, 1) := by decide +kernel
theorem dX9_clearBuffer_8 : decode cX9_clearBuffer 8 = .ok (.aload_n 0, 1) := by decide +kernel
theorem dX9_clearBuffer_9 : decode cX9_clearBuffer 9 = .ok (.getfield 36, 3) := by decide +kernel
theorem dX9_clearBuffer_12 : decode cX9_clearBuffer 12 = .ok (.iconst 0, 1) := by decide +kernel
theorem dX9_clearBuffer_13 : decode cX9_clearBuffer 13 = .ok (.putfield 170, 3) := by decide +kernel
theorem dX9_clearBuffer_16 : decode cX9_clearBuffer 16 = .ok (.iload_n 1, 1) := by decide +kernel
theorem dX9_clearBuffer_17 : decode cX9_clearBuffer 17 = .ok (.ireturn, 1) := by decide +kernel
theorem dX9_load_0 : decode cX9_load 0 = .ok (.aload_n 0, 1) := by decide +kernel
theorem dX9_load_1 : decode cX9_load 1 = .ok (.getfield 36, 3) := by decide +kernel
theorem dX9_load_4 : decode cX9_load 4 = .ok (.invokevirtual 185, 3) := by decide +kernel
theorem dX9_load_7 : decode cX9_load 7 = .ok (.ifCond .ne 13, 3) := by decide +kernel
theorem dX9_load_10 : decode cX9_load 10 = .ok (.new 58, 3) := by decide +kernel
theorem dX9_load_13 : decode cX9_load 13 = .ok (.dup, 1) := by decide +kernel
theorem dX9_load_14 : decode cX9_load 14 = .ok (.ldc 189, 2) := by decide +kernel
theorem dX9_load_16 : decode cX9_load 16 = .ok (.invokespecial 62, 3) := by decide +kernel
theorem dX9_load_19 : decode cX9_load 19 = .ok (.athrow, 1) := by decide +kernel
theorem dX9_load_20 : decode cX9_load 20 = .ok (.aload_n 0, 1) := by decide +kernel
theorem dX9_load_21 : decode cX9_load 21 = .ok (.getfield 19, 3) := by decide +kernel
theorem dX9_load_24 : decode cX9_load 24 = .ok (.aload_n 0, 1) := by decide +kernel
theorem dX9_load_25 : decode cX9_load 25 = .ok (.getfield 10, 3) := by decide +kernel
theorem dX9_load_28 : decode cX9_load 28 = .ok (.invokevirtual 65, 3) := by decide +kernel
theorem dX9_load_31 : decode cX9_load 31 = .ok (.aload_n 0, 1) := by decide +kernel
theorem dX9_load_32 : decode cX9_load 32 = .ok (.getfield 36, 3) := by decide +kernel
theorem dX9_load_35 : decode cX9_load 35 = .ok (.aload_n 0, 1) := by decide +kernel
theorem dX9_load_36 : decode cX9_load 36 = .ok (.getfield 50, 3) := by decide +kernel
theorem dX9_load_39 : decode cX9_load 39 = .ok (.invokevirtual 191, 3) := by decide +kernel
theorem dX9_load_42 : decode cX9_load 42 = .ok (.istore_n 1, 1) := by decide +kernel
theorem dX9_load_43 : decode cX9_load 43 = .ok (.aload_n 0, 1) := by decide +kernel
theorem dX9_load_44 : decode cX9_load 44 = .ok (.getfield 10, 3) := by decide +kernel
theorem dX9_load_47 : decode cX9_load 47 = .ok (.aload_n 0, 1) := by decide +kernel
theorem dX9_load_48 : decode cX9_load 48 = .ok (.getfield 50, 3) := by decide +kernel
theorem dX9_load_51 : decode cX9_load 51 = .ok (.iload_n 1, 1) := by decide +kernel
theorem dX9_load_52 : decode cX9_load 52 = .ok (.invokevirtual 137, 3) := by decide +kernel
theorem dX9_load_55 : decode cX9_load 55 = .ok (.aload_n 0, 1) := by decide +kernel
theorem dX9_load_56 : decode cX9_load 56 = .ok (.getfield 36, 3) := by decide +kernel
theorem dX9_load_59 : decode cX9_load 59 = .ok (.iconst 0, 1) := by decide +kernel
theorem dX9_load_60 : decode cX9_load 60 = .ok (.putfield 170, 3) := by decide +kernel
theorem dX9_load_63 : decode cX9_load 63 = .ok (.iload_n 1, 1) := by decide +kernel
theorem dX9_load_64 : decode cX9_load 64 = .ok (.ireturn, 1) := by decide +kernel
theorem dX9_keep_0 : decode cX9_keep 0 = .ok (.iload_n 1, 1) := by decide +kernel
theorem dX9_keep_1 : decode cX9_keep 1 = .ok (.invokestatic 195, 3) := by decide +kernel
theorem dX9_keep_4 : decode cX9_keep 4 = .ok (.ifCond .eq 13, 3) := by decide +kernel
theorem dX9_keep_7 : decode cX9_keep 7 = .ok (.new 58, 3) := by decide +kernel
theorem dX9_keep_10 : decode cX9_keep 10 = .ok (.dup, 1) := by decide +kernel
theorem dX9_keep_11 : decode cX9_keep 11 = .ok (.ldc 198, 2) := by decide +kernel
theorem dX9_keep_13 : decode cX9_keep 13 = .ok (.invokespecial 62, 3) := by decide +kernel
theorem dX9_keep_16 : decode cX9_keep 16 = .ok (.athrow, 1) := by decide +kernel
theorem dX9_keep_17 : decode cX9_keep 17 = .ok (.aload_n 0, 1) := by decide +kernel
theorem dX9_keep_18 : decode cX9_keep 18 = .ok (.iload_n 1, 1) := by decide +kernel
theorem dX9_keep_19 : decode cX9_keep 19 = .ok (.invokevirtual 200, 3) := by decide +kernel
theorem dX9_keep_22 : decode cX9_keep 22 = .ok (.astore_n 2, 1) := by decide +kernel
theorem dX9_keep_23 : decode cX9_keep 23 = .ok (.aload_n 2, 1) := by decide +kernel
theorem dX9_keep_24 : decode cX9_keep 24 = .ok (.getfield 204, 3) := by decide +kernel
theorem dX9_keep_27 : decode cX9_keep 27 = .ok (.aload_n 0, 1) := by decide +kernel
theorem dX9_keep_28 : decode cX9_keep 28 = .ok (.getfield 10, 3) := by decide +kernel
theorem dX9_keep_31 : decode cX9_keep 31 = .ok (.invokevirtual 207, 3) := by decide +kernel
theorem dX9_keep_34 : decode cX9_keep 34 = .ok (.aload_n 2, 1) := by decide +kernel
theorem dX9_keep_35 : decode cX9_keep 35 = .ok (.iconst 1, 1) := by decide +kernel
theorem dX9_keep_36 : decode cX9_keep 36 = .ok (.putfield 210, 3) := by decide +kernel
theorem dX9_keep_39 : decode cX9_keep 39 = .ok (.aload_n 0, 1) := by decide +kernel
theorem dX9_keep_40 : decode cX9_keep 40 = .ok (.getfield 10, 3) := by decide +kernel
theorem dX9_keep_43 : decode cX9_keep 43 = .ok (.getfield 141, 3) := by decide +kernel
theorem dX9_keep_46 : decode cX9_keep 46 = .ok (.getfield 145, 3) := by decide +kernel
theorem dX9_keep_49 : decode cX9_keep 49 = .ok (.ireturn, 1) := by decide +kernel
theorem dX9_goBack_0 : decode cX9_goBack 0 = .ok (.iload_n 1, 1) := by decide +kernel
theorem dX9_goBack_1 : decode cX9_goBack 1 = .ok (.invokestatic 195, 3) := by decide +kernel
theorem dX9_goBack_4 : decode cX9_goBack 4 = .ok (.ifCond .eq 13, 3) := by decide +kernel
theorem dX9_goBack_7 : decode cX9_goBack 7 = .ok (.new 58, 3) := by decide +kernel
theorem dX9_goBack_10 : decode cX9_goBack 10 = .ok (.dup, 1) := by decide +kernel
theorem dX9_goBack_11 : decode cX9_goBack 11 = .ok (.ldc 198, 2) := by decide +kernel
theorem dX9_goBack_13 : decode cX9_goBack 13 = .ok (.invokespecial 62, 3) := by decide +kernel
theorem dX9_goBack_16 : decode cX9_goBack 16 = .ok (.athrow, 1) := by decide +kernel
theorem dX9_goBack_17 : decode cX9_goBack 17 = .ok (.aload_n 0, 1) := by decide +kernel
theorem dX9_goBack_18 : decode cX9_goBack 18 = .ok (.iload_n 1, 1) := by decide +kernel
theorem dX9_goBack_19 : decode cX9_goBack 19 = .ok (.invokevirtual 200, 3) := by decide +kernel
theorem dX9_goBack_22 : decode cX9_goBack 22 = .ok (.astore_n 2, 1) := by decide +kernel
theorem dX9_goBack_23 : decode cX9_goBack 23 = .ok (.aload_n 2, 1) := by decide +kernel
theorem dX9_goBack_24 : decode cX9_goBack 24 = .ok (.getfield 210, 3) := by decide +kernel
theorem dX9_goBack_27 : decode cX9_goBack 27 = .ok (.ifCond .ne 13, 3) := by decide +kernel
theorem dX9_goBack_30 : decode cX9_goBack 30 = .ok (.new 173, 3) := by decide +kernel
theorem dX9_goBack_33 : decode cX9_goBack 33 = .ok (.dup, 1) := by decide +kernel
theorem dX9_goBack_34 : decode cX9_goBack 34 = .ok (.ldc 214, 2) := by decide +kernel
theorem dX9_goBack_36 : decode cX9_goBack 36 = .ok (.invokespecial 177, 3) := by decide +kernel
theorem dX9_goBack_39 : decode cX9_goBack 39 = .ok (.athrow, 1) := by decide +kernel
theorem dX9_goBack_40 : decode cX9_goBack 40 = .ok (.aload_n 0, 1) := by decide +kernel
theorem dX9_goBack_41 : decode cX9_goBack 41 = .ok (.getfield 19, 3) := by decide +kernel
theorem dX9_goBack_44 : decode cX9_goBack 44 = .ok (.aload_n 0, 1) := by decide +kernel
theorem dX9_goBack_45 : decode cX9_goBack 45 = .ok (.getfield 10, 3) := by decide +kernel
theorem dX9_goBack_48 : decode cX9_goBack 48 = .ok (.invokevirtual 65, 3) := by decide +kernel
theorem dX9_goBack_51 : decode cX9_goBack 51 = .ok (.aload_n 0, 1) := by decide +kernel
theorem dX9_goBack_52 : decode cX9_goBack 52 = .ok (.getfield 10, 3) := by decide +kernel
theorem dX9_goBack_55 : decode cX9_goBack 55 = .ok (.aload_n 2, 1) := by decide +kernel
theorem dX9_goBack_56 : decode cX9_goBack 56 = .ok (.getfield 204, 3) := by decide +kernel
theorem dX9_goBack_59 : decode cX9_goBack 59 = .ok (.invokevirtual 207, 3) := by decide +kernel
theorem dX9_goBack_62 : decode cX9_goBack 62 = .ok (.aload_n 0, 1) := by decide +kernel
theorem dX9_goBack_63 : decode cX9_goBack 63 = .ok (.getfield 10, 3) := by decide +kernel
theorem dX9_goBack_66 : decode cX9_goBack 66 = .ok (.getfield 141, 3) := by decide +kernel
theorem dX9_goBack_69 : decode cX9_goBack 69 = .ok (.getfield 145, 3) := by decide +kernel
theorem dX9_goBack_72 : decode cX9_goBack 72 = .ok (.ireturn, 1) := by decide +kernel
theorem dX9_undo_0 : decode cX9_undo 0 = .ok (.aload_n 0, 1) := by decide +kernel
theorem dX9_undo_1 : decode cX9_undo 1 = .ok (.getfield 19, 3) := by decide +kernel
theorem dX9_undo_4 : decode cX9_undo 4 = .ok (.getfield 216, 3) := by decide +kernel
theorem dX9_undo_7 : decode cX9_undo 7 = .ok (.ifCond .ne 13, 3) := by decide +kernel
theorem dX9_undo_10 : decode cX9_undo 10 = .ok (.new 173, 3) := by decide +kernel
theorem dX9_undo_13 : decode cX9_undo 13 = .ok (.dup, 1) := by decide +kernel
theorem dX9_undo_14 : decode cX9_undo 14 = .ok (.ldc 217, 2) := by decide +kernel
theorem dX9_undo_16 : decode cX9_undo 16 = .ok (.invokespecial 177, 3) := by decide +kernel
theorem dX9_undo_19 : decode cX9_undo 19 = .ok (.athrow, 1) := by decide +kernel
theorem dX9_undo_20 : decode cX9_undo 20 = .ok (.aload_n 0, 1) := by decide +kernel
theorem dX9_undo_21 : decode cX9_undo 21 = .ok (.getfield 19, 3) := by decide +kernel
theorem dX9_undo_24 : decode cX9_undo 24 = .ok (.aload_n 0, 1) := by decide +kernel
theorem dX9_undo_25 : decode cX9_undo 25 = .ok (.getfield 10, 3) := by decide +kernel
theorem dX9_undo_28 : decode cX9_undo 28 = .ok (.invokevirtual 219, 3) := by decide +kernel
theorem dX9_undo_31 : decode cX9_undo 31 = .ok (.aload_n 0, 1) := by decide +kernel
theorem dX9_undo_32 : decode cX9_undo 32 = .ok (.getfield 19, 3) := by decide +kernel
theorem dX9_undo_35 : decode cX9_undo 35 = .ok (.getfield 216, 3) := by decide +kernel
theorem dX9_undo_38 : decode cX9_undo 38 = .ok (.ireturn, 1) := by decide +kernel
theorem dX9_hole_0 : decode cX9_hole 0 = .ok (.aload_n 0, 1) := by decide +kernel
theorem dX9_hole_1 : decode cX9_hole 1 = .ok (.iload_n 1, 1) := by decide +kernel
theorem dX9_hole_2 : decode cX9_hole 2 = .ok (.invokevirtual 82, 3) := by decide +kernel
theorem dX9_hole_5 : decode cX9_hole 5 = .ok (.ifCond .eq 13, 3) := by decide +kernel
theorem dX9_hole_8 : decode cX9_hole 8 = .ok (.new 85, 3) := by decide +kernel
theorem dX9_hole_11 : decode cX9_hole 11 = .ok (.dup, 1) := by decide +kernel
theorem dX9_hole_12 : decode cX9_hole 12 = .ok (.ldc 87, 2) := by decide +kernel
theorem dX9_hole_14 : decode cX9_hole 14 = .ok (.invokespecial 89, 3) := by decide +kernel
theorem dX9_hole_17 : decode cX9_hole 17 = .ok (.athrow, 1) := by decide +kernel
theorem dX9_hole_18 : decode cX9_hole 18 = .ok (.iload_n 2, 1) := by decide +kernel
theorem dX9_hole_19 : decode cX9_hole 19 = .ok (.ifCond .lt 9, 3) := by decide +kernel
theorem dX9_hole_22 : decode cX9_hole 22 = .ok (.iload_n 2, 1) := by decide +kernel
theorem dX9_hole_23 : decode cX9_hole 23 = .ok (.bipush 11, 2) := by decide +kernel
theorem dX9_hole_25 : decode cX9_hole 25 = .ok (.if_icmp .le 13, 3) := by decide +kernel
theorem dX9_hole_28 : decode cX9_hole 28 = .ok (.new 58, 3) := by decide +kernel
theorem dX9_hole_31 : decode cX9_hole 31 = .ok (.dup, 1) := by decide +kernel
theorem dX9_hole_32 : decode cX9_hole 32 = .ok (.ldc 222, 2) := by decide +kernel
theorem dX9_hole_34 : decode cX9_hole 34 = .ok (.invokespecial 62, 3) := by decide +kernel
theorem dX9_hole_37 : decode cX9_hole 37 = .ok (.athrow, 1) := by decide +kernel
theorem dX9_hole_38 : decode cX9_hole 38 = .ok (.aload_n 0, 1) := by decide +kernel
theorem dX9_hole_39 : decode cX9_hole 39 = .ok (.getfield 43, 3) := by decide +kernel
theorem dX9_hole_42 : decode cX9_hole 42 = .ok (.aload_n 0, 1) := by decide +kernel
theorem dX9_hole_43 : decode cX9_hole 43 = .ok (.getfield 10, 3) := by decide +kernel
theorem dX9_hole_46 : decode cX9_hole 46 = .ok (.invokevirtual 224, 3) := by decide +kernel
theorem dX9_hole_49 : decode cX9_hole 49 = .ok (.aload_n 0, 1) := by decide +kernel
theorem dX9_hole_50 : decode cX9_hole 50 = .ok (.iload_n 1, 1) := by decide +kernel
theorem dX9_hole_51 : decode cX9_hole 51 = .ok (.iload_n 2, 1) := by decide +kernel
theorem dX9_hole_52 : decode cX9_hole 52 = .ok (.aload_n 0, 1) := by decide +kernel
theorem dX9_hole_53 : decode cX9_hole 53 = .ok (.getfield 43, 3) := by decide +kernel
theorem dX9_hole_56 : decode cX9_hole 56 = .ok (.invokevirtual 227, 3) := by decide +kernel
theorem dX9_hole_59 : decode cX9_hole 59 = .ok (.ireturn, 1) := by decide +kernel
theorem dX9_reading_0 : decode cX9_reading 0 = .ok (.aload_n 0, 1) := by decide +kernel
theorem dX9_reading_1 : decode cX9_reading 1 = .ok (.iload_n 1, 1) := by decide +kernel
theorem dX9_reading_2 : decode cX9_reading 2 = .ok (.invokevirtual 150, 3) := by decide +kernel
theorem dX9_reading_5 : decode cX9_reading 5 = .ok (.ifCond .eq 13, 3) := by decide +kernel
theorem dX9_reading_8 : decode cX9_reading 8 = .ok (.new 85, 3) := by decide +kernel
theorem dX9_reading_11 : decode cX9_reading 11 = .ok (.dup, 1) := by decide +kernel
theorem dX9_reading_12 : decode cX9_reading 12 = .ok (.ldc 153, 2) := by decide +kernel
theorem dX9_reading_14 : decode cX9_reading 14 = .ok (.invokespecial 89, 3) := by decide +kernel
theorem dX9_reading_17 : decode cX9_reading 17 = .ok (.athrow, 1) := by decide +kernel
theorem dX9_reading_18 : decode cX9_reading 18 = .ok (.iload_n 2, 1) := by decide +kernel
theorem dX9_reading_19 : decode cX9_reading 19 = .ok (.ifCond .lt 9, 3) := by decide +kernel
theorem dX9_reading_22 : decode cX9_reading 22 = .ok (.iload_n 2, 1) := by decide +kernel
theorem dX9_reading_23 : decode cX9_reading 23 = .ok (.bipush 10, 2) := by decide +kernel
theorem dX9_reading_25 : decode cX9_reading 25 = .ok (.if_icmp .le 13, 3) := by decide +kernel
theorem dX9_reading_28 : decode cX9_reading 28 = .ok (.new 58, 3) := by decide +kernel
theorem dX9_reading_31 : decode cX9_reading 31 = .ok (.dup, 1) := by decide +kernel
theorem dX9_reading_32 : decode cX9_reading 32 = .ok (.ldc 231, 2) := by decide +kernel
theorem dX9_reading_34 : decode cX9_reading 34 = .ok (.invokespecial 62, 3) := by decide +kernel
theorem dX9_reading_37 : decode cX9_reading 37 = .ok (.athrow, 1) := by decide +kernel
theorem dX9_reading_38 : decode cX9_reading 38 = .ok (.aload_n 0, 1) := by decide +kernel
theorem dX9_reading_39 : decode cX9_reading 39 = .ok (.iload_n 1, 1) := by decide +kernel
theorem dX9_reading_40 : decode cX9_reading 40 = .ok (.iload_n 2, 1) := by decide +kernel
theorem dX9_reading_41 : decode cX9_reading 41 = .ok (.invokevirtual 233, 3) := by decide +kernel
theorem dX9_reading_44 : decode cX9_reading 44 = .ok (.ireturn, 1) := by decide +kernel
theorem dX9_flow_0 : decode cX9_flow 0 = .ok (.iload_n 1, 1) := by decide +kernel
theorem dX9_flow_1 : decode cX9_flow 1 = .ok (.ifCond .lt 8, 3) := by decide +kernel
theorem dX9_flow_4 : decode cX9_flow 4 = .ok (.iload_n 1, 1) := by decide +kernel
theorem dX9_flow_5 : decode cX9_flow 5 = .ok (.iconst 3, 1) := by decide +kernel
theorem dX9_flow_6 : decode cX9_flow 6 = .ok (.if_icmp .le 13, 3) := by decide +kernel
theorem dX9_flow_9 : decode cX9_flow 9 = .ok (.new 58, 3) := by decide +kernel
theorem dX9_flow_12 : decode cX9_flow 12 = .ok (.dup, 1) := by decide +kernel
theorem dX9_flow_13 : decode cX9_flow 13 = .ok (.ldc 237, 2) := by decide +kernel
theorem dX9_flow_15 : decode cX9_flow 15 = .ok (.invokespecial 62, 3) := by decide +kernel
theorem dX9_flow_18 : decode cX9_flow 18 = .ok (.athrow, 1) := by decide +kernel
theorem dX9_flow_19 : decode cX9_flow 19 = .ok (.aload_n 0, 1) := by decide +kernel
theorem dX9_flow_20 : decode cX9_flow 20 = .ok (.getfield 43, 3) := by decide +kernel
theorem dX9_flow_23 : decode cX9_flow 23 = .ok (.aload_n 0, 1) := by decide +kernel
theorem dX9_flow_24 : decode cX9_flow 24 = .ok (.getfield 10, 3) := by decide +kernel
theorem dX9_flow_27 : decode cX9_flow 27 = .ok (.invokevirtual 224, 3) := by decide +kernel
theorem dX9_flow_30 : decode cX9_flow 30 = .ok (.aload_n 0, 1) := by decide +kernel
theorem dX9_flow_31 : decode cX9_flow 31 = .ok (.iload_n 1, 1) := by decide +kernel
theorem dX9_flow_32 : decode cX9_flow 32 = .ok (.aload_n 0, 1) := by decide +kernel
theorem dX9_flow_33 : decode cX9_flow 33 = .ok (.getfield 43, 3) := by decide +kernel
theorem dX9_flow_36 : decode cX9_flow 36 = .ok (.invokevirtual 239, 3) := by decide +kernel
theorem dX9_flow_39 : decode cX9_flow 39 = .ok (.ireturn, 1) := by decide +kernel
theorem dX9_count_0 : decode cX9_count 0 = .ok (.iload_n 1, 1) := by decide +kernel
theorem dX9_count_1 : decode cX9_count 1 = .ok (.ifCond .lt 9, 3) := by decide +kernel
theorem dX9_count_4 : decode cX9_count 4 = .ok (.iload_n 1, 1) := by decide +kernel
theorem dX9_count_5 : decode cX9_count 5 = .ok (.bipush 13, 2) := by decide +kernel
theorem dX9_count_7 : decode cX9_count 7 = .ok (.if_icmp .le 13, 3) := by decide +kernel
theorem dX9_count_10 : decode cX9_count 10 = .ok (.new 58, 3) := by decide +kernel
theorem dX9_count_13 : decode cX9_count 13 = .ok (.dup, 1) := by decide +kernel
theorem dX9_count_14 : decode cX9_count 14 = .ok (.ldc 243, 2) := by decide +kernel
theorem dX9_count_16 : decode cX9_count 16 = .ok (.invokespecial 62, 3) := by decide +kernel
theorem dX9_count_19 : decode cX9_count 19 = .ok (.athrow, 1) := by decide +kernel
theorem dX9_count_20 : decode cX9_count 20 = .ok (.aload_n 0, 1) := by decide +kernel
theorem dX9_count_21 : decode cX9_count 21 = .ok (.getfield 43, 3) := by decide +kernel
theorem dX9_count_24 : decode cX9_count 24 = .ok (.aload_n 0, 1) := by decide +kernel
theorem dX9_count_25 : decode cX9_count 25 = .ok (.getfield 10, 3) := by decide +kernel
theorem dX9_count_28 : decode cX9_count 28 = .ok (.invokevirtual 224, 3) := by decide +kernel
theorem dX9_count_31 : decode cX9_count 31 = .ok (.aload_n 0, 1) := by decide +kernel
theorem dX9_count_32 : decode cX9_count 32 = .ok (.iload_n 1, 1) := by decide +kernel
theorem dX9_count_33 : decode cX9_count 33 = .ok (.aload_n 0, 1) := by decide +kernel
theorem dX9_count_34 : decode cX9_count 34 = .ok (.getfield 43, 3) := by decide +kernel
theorem dX9_count_37 : decode cX9_count 37 = .ok (.invokevirtual 245, 3) := by decide +kernel
theorem dX9_count_40 : decode cX9_count 40 = .ok (.ireturn, 1) := by decide +kernel
theorem dX9_setting_0 : decode cX9_setting 0 = .ok (.iload_n 1, 1) := by decide +kernel
theorem dX9_setting_1 : decode cX9_setting 1 = .ok (.invokestatic 158, 3) := by decide +kernel
theorem dX9_setting_4 : decode cX9_setting 4 = .ok (.ifCond .eq 13, 3) := by decide +kernel
theorem dX9_setting_7 : decode cX9_setting 7 = .ok (.new 85, 3) := by decide +kernel
theorem dX9_setting_10 : decode cX9_setting 10 = .ok (.dup, 1) := by decide +kernel
theorem dX9_setting_11 : decode cX9_setting 11 = .ok (.ldc 161, 2) := by decide +kernel
theorem dX9_setting_13 : decode cX9_setting 13 = .ok (.invokespecial 89, 3) := by decide +kernel
theorem dX9_setting_16 : decode cX9_setting 16 = .ok (.athrow, 1) := by decide +kernel
theorem dX9_setting_17 : decode cX9_setting 17 = .ok (.aload_n 0, 1) := by decide +kernel
theorem dX9_setting_18 : decode cX9_setting 18 = .ok (.getfield 10, 3) := by decide +kernel
theorem dX9_setting_21 : decode cX9_setting 21 = .ok (.getfield 121, 3) := by decide +kernel
theorem dX9_setting_24 : decode cX9_setting 24 = .ok (.iload_n 1, 1) := by decide +kernel
theorem dX9_setting_25 : decode cX9_setting 25 = .ok (.invokestatic 95, 3) := by decide +kernel
theorem dX9_setting_28 : decode cX9_setting 28 = .ok (.ireturn, 1) := by decide +kernel
theorem dX9_worst_0 : decode cX9_worst 0 = .ok (.aload_n 0, 1) := by decide +kernel
theorem dX9_worst_1 : decode cX9_worst 1 = .ok (.getfield 43, 3) := by decide +kernel
theorem dX9_worst_4 : decode cX9_worst 4 = .ok (.aload_n 0, 1) := by decide +kernel
theorem dX9_worst_5 : decode cX9_worst 5 = .ok (.getfield 10, 3) := by decide +kernel
theorem dX9_worst_8 : decode cX9_worst 8 = .ok (.invokevirtual 224, 3) := by decide +kernel
theorem dX9_worst_11 : decode cX9_worst 11 = .ok (.aload_n 0, 1) := by decide +kernel
theorem dX9_worst_12 : decode cX9_worst 12 = .ok (.aload_n 0, 1) := by decide +kernel
theorem dX9_worst_13 : decode cX9_worst 13 = .ok (.getfield 43, 3) := by decide +kernel
theorem dX9_worst_16 : decode cX9_worst 16 = .ok (.invokevirtual 251, 3) := by decide +kernel
theorem dX9_worst_19 : decode cX9_worst 19 = .ok (.ireturn, 1) := by decide +kernel
theorem dX9_ifRake_0 : decode cX9_ifRake 0 = .ok (.iload_n 1, 1) := by decide +kernel
theorem dX9_ifRake_1 : decode cX9_ifRake 1 = .ok (.invokestatic 54, 3) := by decide +kernel
theorem dX9_ifRake_4 : decode cX9_ifRake 4 = .ok (.ifCond .eq 13, 3) := by decide +kernel
theorem dX9_ifRake_7 : decode cX9_ifRake 7 = .ok (.new 58, 3) := by decide +kernel
theorem dX9_ifRake_10 : decode cX9_ifRake 10 = .ok (.dup, 1) := by decide +kernel
theorem dX9_ifRake_11 : decode cX9_ifRake 11 = .ok (.ldc 60, 2) := by decide +kernel
theorem dX9_ifRake_13 : decode cX9_ifRake 13 = .ok (.invokespecial 62, 3) := by decide +kernel
theorem dX9_ifRake_16 : decode cX9_ifRake 16 = .ok (.athrow, 1) := by decide +kernel
theorem dX9_ifRake_17 : decode cX9_ifRake 17 = .ok (.aload_n 0, 1) := by decide +kernel
theorem dX9_ifRake_18 : decode cX9_ifRake 18 = .ok (.getfield 10, 3) := by decide +kernel
theorem dX9_ifRake_21 : decode cX9_ifRake 21 = .ok (.iload_n 1, 1) := by decide +kernel
theorem dX9_ifRake_22 : decode cX9_ifRake 22 = .ok (.invokestatic 255, 3) := by decide +kernel
theorem dX9_ifRake_25 : decode cX9_ifRake 25 = .ok (.ireturn, 1) := by decide +kernel
theorem dX9_fineRake_0 : decode cX9_fineRake 0 = .ok (.iload_n 1, 1) := by decide +kernel
theorem dX9_fineRake_1 : decode cX9_fineRake 1 = .ok (.ifCond .lt 10, 3) := by decide +kernel
theorem dX9_fineRake_4 : decode cX9_fineRake 4 = .ok (.iload_n 1, 1) := by decide +kernel
theorem dX9_fineRake_5 : decode cX9_fineRake 5 = .ok (.ldc_w 258, 3) := by decide +kernel
theorem dX9_fineRake_8 : decode cX9_fineRake 8 = .ok (.if_icmp .le 14, 3) := by decide +kernel
theorem dX9_fineRake_11 : decode cX9_fineRake 11 = .ok (.new 58, 3) := by decide +kernel
theorem dX9_fineRake_14 : decode cX9_fineRake 14 = .ok (.dup, 1) := by decide +kernel
theorem dX9_fineRake_15 : decode cX9_fineRake 15 = .ok (.ldc_w 259, 3) := by decide +kernel
theorem dX9_fineRake_18 : decode cX9_fineRake 18 = .ok (.invokespecial 62, 3) := by decide +kernel
theorem dX9_fineRake_21 : decode cX9_fineRake 21 = .ok (.athrow, 1) := by decide +kernel
theorem dX9_fineRake_22 : decode cX9_fineRake 22 = .ok (.aload_n 0, 1) := by decide +kernel
theorem dX9_fineRake_23 : decode cX9_fineRake 23 = .ok (.iload_n 1, 1) := by decide +kernel
theorem dX9_fineRake_24 : decode cX9_fineRake 24 = .ok (.invokevirtual 261, 3) := by decide +kernel
theorem dX9_fineRake_27 : decode cX9_fineRake 27 = .ok (.ireturn, 1) := by decide +kernel
theorem dX9_evenness_0 : decode cX9_evenness 0 = .ok (.aload_n 0, 1) := by decide +kernel
theorem dX9_evenness_1 : decode cX9_evenness 1 = .ok (.getfield 43, 3) := by decide +kernel
theorem dX9_evenness_4 : decode cX9_evenness 4 = .ok (.aload_n 0, 1) := by decide +kernel
theorem dX9_evenness_5 : decode cX9_evenness 5 = .ok (.getfield 10, 3) := by decide +kernel
theorem dX9_evenness_8 : decode cX9_evenness 8 = .ok (.invokevirtual 224, 3) := by decide +kernel
theorem dX9_evenness_11 : decode cX9_evenness 11 = .ok (.aload_n 0, 1) := by decide +kernel
theorem dX9_evenness_12 : decode cX9_evenness 12 = .ok (.getfield 43, 3) := by decide +kernel
theorem dX9_evenness_15 : decode cX9_evenness 15 = .ok (.invokevirtual 264, 3) := by decide +kernel
theorem dX9_evenness_18 : decode cX9_evenness 18 = .ok (.dreturn, 1) := by decide +kernel
theorem dX9_isNoRake_0 : decode cX9_isNoRake 0 = .ok (.iload_n 0, 1) := by decide +kernel
theorem dX9_isNoRake_1 : decode cX9_isNoRake 1 = .ok (.iconst 2, 1) := by decide +kernel
theorem dX9_isNoRake_2 : decode cX9_isNoRake 2 = .ok (.if_icmp .lt 9, 3) := by decide +kernel
theorem dX9_isNoRake_5 : decode cX9_isNoRake 5 = .ok (.iload_n 0, 1) := by decide +kernel
theorem dX9_isNoRake_6 : decode cX9_isNoRake 6 = .ok (.bipush 8, 2) := by decide +kernel
theorem dX9_isNoRake_8 : decode cX9_isNoRake 8 = .ok (.if_icmp .le 7, 3) := by decide +kernel
theorem dX9_isNoRake_11 : decode cX9_isNoRake 11 = .ok (.iconst 1, 1) := by decide +kernel
theorem dX9_isNoRake_12 : decode cX9_isNoRake 12 = .ok (.goto 4, 3) := by decide +kernel
theorem dX9_isNoRake_15 : decode cX9_isNoRake 15 = .ok (.iconst 0, 1) := by decide +kernel
theorem dX9_isNoRake_16 : decode cX9_isNoRake 16 = .ok (.ireturn, 1) := by decide +kernel
theorem dX9_isNoSetting_0 : decode cX9_isNoSetting 0 = .ok (.iload_n 0, 1) := by decide +kernel
theorem dX9_isNoSetting_1 : decode cX9_isNoSetting 1 = .ok (.ifCond .lt 8, 3) := by decide +kernel
theorem dX9_isNoSetting_4 : decode cX9_isNoSetting 4 = .ok (.iload_n 0, 1) := by decide +kernel
theorem dX9_isNoSetting_5 : decode cX9_isNoSetting 5 = .ok (.iconst 5, 1) := by decide +kernel
theorem dX9_isNoSetting_6 : decode cX9_isNoSetting 6 = .ok (.if_icmp .lt 7, 3) := by decide +kernel
theorem dX9_isNoSetting_9 : decode cX9_isNoSetting 9 = .ok (.iconst 1, 1) := by decide +kernel
theorem dX9_isNoSetting_10 : decode cX9_isNoSetting 10 = .ok (.goto 4, 3) := by decide +kernel
theorem dX9_isNoSetting_13 : decode cX9_isNoSetting 13 = .ok (.iconst 0, 1) := by decide +kernel
theorem dX9_isNoSetting_14 : decode cX9_isNoSetting 14 = .ok (.ireturn, 1) := by decide +kernel
theorem dX9_isNoSlot_0 : decode cX9_isNoSlot 0 = .ok (.iload_n 0, 1) := by decide +kernel
theorem dX9_isNoSlot_1 : decode cX9_isNoSlot 1 = .ok (.ifCond .lt 8, 3) := by decide +kernel
theorem dX9_isNoSlot_4 : decode cX9_isNoSlot 4 = .ok (.iload_n 0, 1) := by decide +kernel
theorem dX9_isNoSlot_5 : decode cX9_isNoSlot 5 = .ok (.iconst 1, 1) := by decide +kernel
theorem dX9_isNoSlot_6 : decode cX9_isNoSlot 6 = .ok (.if_icmp .le 7, 3) := by decide +kernel
theorem dX9_isNoSlot_9 : decode cX9_isNoSlot 9 = .ok (.iconst 1, 1) := by decide +kernel
theorem dX9_isNoSlot_10 : decode cX9_isNoSlot 10 = .ok (.goto 4, 3) := by decide +kernel
theorem dX9_isNoSlot_13 : decode cX9_isNoSlot 13 = .ok (.iconst 0, 1) := by decide +kernel
theorem dX9_isNoSlot_14 : decode cX9_isNoSlot 14 = .ok (.ireturn, 1) := by decide +kernel
theorem dX9_isNoHole_0 : decode cX9_isNoHole 0 = .ok (.iload_n 1, 1) := by decide +kernel
theorem dX9_isNoHole_1 : decode cX9_isNoHole 1 = .ok (.ifCond .lt 14, 3) := by decide +kernel
theorem dX9_isNoHole_4 : decode cX9_isNoHole 4 = .ok (.iload_n 1, 1) := by decide +kernel
theorem dX9_isNoHole_5 : decode cX9_isNoHole 5 = .ok (.aload_n 0, 1) := by decide +kernel
theorem dX9_isNoHole_6 : decode cX9_isNoHole 6 = .ok (.getfield 10, 3) := by decide +kernel
theorem dX9_isNoHole_9 : decode cX9_isNoHole 9 = .ok (.getfield 69, 3) := by decide +kernel
theorem dX9_isNoHole_12 : decode cX9_isNoHole 12 = .ok (.if_icmp .lt 7, 3) := by decide +kernel
theorem dX9_isNoHole_15 : decode cX9_isNoHole 15 = .ok (.iconst 1, 1) := by decide +kernel
theorem dX9_isNoHole_16 : decode cX9_isNoHole 16 = .ok (.goto 4, 3) := by decide +kernel
theorem dX9_isNoHole_19 : decode cX9_isNoHole 19 = .ok (.iconst 0, 1) := by decide +kernel
theorem dX9_isNoHole_20 : decode cX9_isNoHole 20 = .ok (.ireturn, 1) := by decide +kernel
theorem dX9_isNoReading_0 : decode cX9_isNoReading 0 = .ok (.iload_n 1, 1) := by decide +kernel
theorem dX9_isNoReading_1 : decode cX9_isNoReading 1 = .ok (.ifCond .lt 17, 3) := by decide +kernel
theorem dX9_isNoReading_4 : decode cX9_isNoReading 4 = .ok (.iload_n 1, 1) := by decide +kernel
theorem dX9_isNoReading_5 : decode cX9_isNoReading 5 = .ok (.aload_n 0, 1) := by decide +kernel
theorem dX9_isNoReading_6 : decode cX9_isNoReading 6 = .ok (.getfield 10, 3) := by decide +kernel
theorem dX9_isNoReading_9 : decode cX9_isNoReading 9 = .ok (.getfield 141, 3) := by decide +kernel
theorem dX9_isNoReading_12 : decode cX9_isNoReading 12 = .ok (.getfield 145, 3) := by decide +kernel
theorem dX9_isNoReading_15 : decode cX9_isNoReading 15 = .ok (.if_icmp .lt 7, 3) := by decide +kernel
theorem dX9_isNoReading_18 : decode cX9_isNoReading 18 = .ok (.iconst 1, 1) := by decide +kernel
theorem dX9_isNoReading_19 : decode cX9_isNoReading 19 = .ok (.goto 4, 3) := by decide +kernel
theorem dX9_isNoReading_22 : decode cX9_isNoReading 22 = .ok (.iconst 0, 1) := by decide +kernel
theorem dX9_isNoReading_23 : decode cX9_isNoReading 23 = .ok (.ireturn, 1) := by decide +kernel
theorem dX9_slotOf_0 : decode cX9_slotOf 0 = .ok (.iload_n 1, 1) := by decide +kernel
theorem dX9_slotOf_1 : decode cX9_slotOf 1 = .ok (.ifCond .ne 10, 3) := by decide +kernel
theorem dX9_slotOf_4 : decode cX9_slotOf 4 = .ok (.aload_n 0, 1) := by decide +kernel
theorem dX9_slotOf_5 : decode cX9_slotOf 5 = .ok (.getfield 26, 3) := by decide +kernel
theorem dX9_slotOf_8 : decode cX9_slotOf 8 = .ok (.goto 7, 3) := by decide +kernel
theorem dX9_slotOf_11 : decode cX9_slotOf 11 = .ok (.aload_n 0, 1) := by decide +kernel
theorem dX9_slotOf_12 : decode cX9_slotOf 12 = .ok (.getfield 30, 3) := by decide +kernel
theorem dX9_slotOf_15 : decode cX9_slotOf 15 = .ok (.areturn, 1) := by decide +kernel
theorem dX9_holeValue_0 : decode cX9_holeValue 0 = .ok (.iload_n 2, 1) := by decide +kernel
theorem dX9_holeValue_1 : decode cX9_holeValue 1 = .ok (.tableswitch 214 0 10 #[59, 78, 90, 102, 114, 130, 139, 156, 176, 185, 205], 59) := by decide +kernel
theorem dX9_holeValue_60 : decode cX9_holeValue 60 = .ok (.aload_n 0, 1) := by decide +kernel
theorem dX9_holeValue_61 : decode cX9_holeValue 61 = .ok (.getfield 10, 3) := by decide +kernel
theorem dX9_holeValue_64 : decode cX9_holeValue 64 = .ok (.getfield 79, 3) := by decide +kernel
theorem dX9_holeValue_67 : decode cX9_holeValue 67 = .ok (.iload_n 1, 1) := by decide +kernel
theorem dX9_holeValue_68 : decode cX9_holeValue 68 = .ok (.aload_n 0, 1) := by decide +kernel
theorem dX9_holeValue_69 : decode cX9_holeValue 69 = .ok (.getfield 10, 3) := by decide +kernel
theorem dX9_holeValue_72 : decode cX9_holeValue 72 = .ok (.getfield 69, 3) := by decide +kernel
theorem dX9_holeValue_75 : decode cX9_holeValue 75 = .ok (.invokestatic 291, 3) := by decide +kernel
theorem dX9_holeValue_78 : decode cX9_holeValue 78 = .ok (.ireturn, 1) := by decide +kernel
theorem dX9_holeValue_79 : decode cX9_holeValue 79 = .ok (.aload_n 0, 1) := by decide +kernel
theorem dX9_holeValue_80 : decode cX9_holeValue 80 = .ok (.getfield 10, 3) := by decide +kernel
theorem dX9_holeValue_83 : decode cX9_holeValue 83 = .ok (.getfield 92, 3) := by decide +kernel
theorem dX9_holeValue_86 : decode cX9_holeValue 86 = .ok (.iload_n 1, 1) := by decide +kernel
theorem dX9_holeValue_87 : decode cX9_holeValue 87 = .ok (.invokestatic 95, 3) := by decide +kernel
theorem dX9_holeValue_90 : decode cX9_holeValue 90 = .ok (.ireturn, 1) := by decide +kernel
theorem dX9_holeValue_91 : decode cX9_holeValue 91 = .ok (.aload_n 0, 1) := by decide +kernel
theorem dX9_holeValue_92 : decode cX9_holeValue 92 = .ok (.getfield 10, 3) := by decide +kernel
theorem dX9_holeValue_95 : decode cX9_holeValue 95 = .ok (.getfield 107, 3) := by decide +kernel
theorem dX9_holeValue_98 : decode cX9_holeValue 98 = .ok (.iload_n 1, 1) := by decide +kernel
theorem dX9_holeValue_99 : decode cX9_holeValue 99 = .ok (.invokestatic 95, 3) := by decide +kernel
theorem dX9_holeValue_102 : decode cX9_holeValue 102 = .ok (.ireturn, 1) := by decide +kernel
theorem dX9_holeValue_103 : decode cX9_holeValue 103 = .ok (.aload_n 0, 1) := by decide +kernel
theorem dX9_holeValue_104 : decode cX9_holeValue 104 = .ok (.getfield 10, 3) := by decide +kernel
theorem dX9_holeValue_107 : decode cX9_holeValue 107 = .ok (.getfield 124, 3) := by decide +kernel
theorem dX9_holeValue_110 : decode cX9_holeValue 110 = .ok (.iload_n 1, 1) := by decide +kernel
theorem dX9_holeValue_111 : decode cX9_holeValue 111 = .ok (.invokestatic 95, 3) := by decide +kernel
theorem dX9_holeValue_114 : decode cX9_holeValue 114 = .ok (.ireturn, 1) := by decide +kernel
theorem dX9_holeValue_115 : decode cX9_holeValue 115 = .ok (.aload_n 0, 1) := by decide +kernel
theorem dX9_holeValue_116 : decode cX9_holeValue 116 = .ok (.getfield 10, 3) := by decide +kernel
theorem dX9_holeValue_119 : decode cX9_holeValue 119 = .ok (.iload_n 1, 1) := by decide +kernel
theorem dX9_holeValue_120 : decode cX9_holeValue 120 = .ok (.aload_n 0, 1) := by decide +kernel
theorem dX9_holeValue_121 : decode cX9_holeValue 121 = .ok (.getfield 10, 3) := by decide +kernel
theorem dX9_holeValue_124 : decode cX9_holeValue 124 = .ok (.getfield 69, 3) := by decide +kernel
theorem dX9_holeValue_127 : decode cX9_holeValue 127 = .ok (.invokestatic 295, 3) := by decide +kernel
theorem dX9_holeValue_130 : decode cX9_holeValue 130 = .ok (.ireturn, 1) := by decide +kernel
theorem dX9_holeValue_131 : decode cX9_holeValue 131 = .ok (.aload_n 0, 1) := by decide +kernel
theorem dX9_holeValue_132 : decode cX9_holeValue 132 = .ok (.getfield 10, 3) := by decide +kernel
theorem dX9_holeValue_135 : decode cX9_holeValue 135 = .ok (.iload_n 1, 1) := by decide +kernel
theorem dX9_holeValue_136 : decode cX9_holeValue 136 = .ok (.invokestatic 127, 3) := by decide +kernel
theorem dX9_holeValue_139 : decode cX9_holeValue 139 = .ok (.ireturn, 1) := by decide +kernel
theorem dX9_holeValue_140 : decode cX9_holeValue 140 = .ok (.aload_n 0, 1) := by decide +kernel
theorem dX9_holeValue_141 : decode cX9_holeValue 141 = .ok (.getfield 10, 3) := by decide +kernel
theorem dX9_holeValue_144 : decode cX9_holeValue 144 = .ok (.iload_n 1, 1) := by decide +kernel
theorem dX9_holeValue_145 : decode cX9_holeValue 145 = .ok (.aload_n 0, 1) := by decide +kernel
theorem dX9_holeValue_146 : decode cX9_holeValue 146 = .ok (.getfield 10, 3) := by decide +kernel
theorem dX9_holeValue_149 : decode cX9_holeValue 149 = .ok (.iload_n 1, 1) := by decide +kernel
theorem dX9_holeValue_150 : decode cX9_holeValue 150 = .ok (.invokestatic 127, 3) := by decide +kernel
theorem dX9_holeValue_153 : decode cX9_holeValue 153 = .ok (.invokestatic 133, 3) := by decide +kernel
theorem dX9_holeValue_156 : decode cX9_holeValue 156 = .ok (.ireturn, 1) := by decide +kernel
theorem dX9_holeValue_157 : decode cX9_holeValue 157 = .ok (.aload_n 3, 1) := by decide +kernel
theorem dX9_holeValue_158 : decode cX9_holeValue 158 = .ok (.getfield 298, 3) := by decide +kernel
theorem dX9_holeValue_161 : decode cX9_holeValue 161 = .ok (.ifCond .ne 7, 3) := by decide +kernel
theorem dX9_holeValue_164 : decode cX9_holeValue 164 = .ok (.iconst (-1), 1) := by decide +kernel
theorem dX9_holeValue_165 : decode cX9_holeValue 165 = .ok (.goto 11, 3) := by decide +kernel
theorem dX9_holeValue_168 : decode cX9_holeValue 168 = .ok (.aload_n 3, 1) := by decide +kernel
theorem dX9_holeValue_169 : decode cX9_holeValue 169 = .ok (.getfield 301, 3) := by decide +kernel
theorem dX9_holeValue_172 : decode cX9_holeValue 172 = .ok (.iload_n 1, 1) := by decide +kernel
theorem dX9_holeValue_173 : decode cX9_holeValue 173 = .ok (.invokestatic 95, 3) := by decide +kernel
theorem dX9_holeValue_176 : decode cX9_holeValue 176 = .ok (.ireturn, 1) := by decide +kernel
theorem dX9_holeValue_177 : decode cX9_holeValue 177 = .ok (.aload_n 3, 1) := by decide +kernel
theorem dX9_holeValue_178 : decode cX9_holeValue 178 = .ok (.getfield 304, 3) := by decide +kernel
theorem dX9_holeValue_181 : decode cX9_holeValue 181 = .ok (.iload_n 1, 1) := by decide +kernel
theorem dX9_holeValue_182 : decode cX9_holeValue 182 = .ok (.invokestatic 95, 3) := by decide +kernel
theorem dX9_holeValue_185 : decode cX9_holeValue 185 = .ok (.ireturn, 1) := by decide +kernel
theorem dX9_holeValue_186 : decode cX9_holeValue 186 = .ok (.aload_n 3, 1) := by decide +kernel
theorem dX9_holeValue_187 : decode cX9_holeValue 187 = .ok (.getfield 307, 3) := by decide +kernel
theorem dX9_holeValue_190 : decode cX9_holeValue 190 = .ok (.ifCond .ne 7, 3) := by decide +kernel
theorem dX9_holeValue_193 : decode cX9_holeValue 193 = .ok (.iconst (-1), 1) := by decide +kernel
theorem dX9_holeValue_194 : decode cX9_holeValue 194 = .ok (.goto 11, 3) := by decide +kernel
theorem dX9_holeValue_197 : decode cX9_holeValue 197 = .ok (.aload_n 3, 1) := by decide +kernel
theorem dX9_holeValue_198 : decode cX9_holeValue 198 = .ok (.getfield 310, 3) := by decide +kernel
theorem dX9_holeValue_201 : decode cX9_holeValue 201 = .ok (.iload_n 1, 1) := by decide +kernel
theorem dX9_holeValue_202 : decode cX9_holeValue 202 = .ok (.invokestatic 95, 3) := by decide +kernel
theorem dX9_holeValue_205 : decode cX9_holeValue 205 = .ok (.ireturn, 1) := by decide +kernel
theorem dX9_holeValue_206 : decode cX9_holeValue 206 = .ok (.aload_n 3, 1) := by decide +kernel
theorem dX9_holeValue_207 : decode cX9_holeValue 207 = .ok (.iload_n 1, 1) := by decide +kernel
theorem dX9_holeValue_208 : decode cX9_holeValue 208 = .ok (.iload_n 1, 1) := by decide +kernel
theorem dX9_holeValue_209 : decode cX9_holeValue 209 = .ok (.iconst 1, 1) := by decide +kernel
theorem dX9_holeValue_210 : decode cX9_holeValue 210 = .ok (.iadd, 1) := by decide +kernel
theorem dX9_holeValue_211 : decode cX9_holeValue 211 = .ok (.invokevirtual 313, 3) := by decide +kernel
theorem dX9_holeValue_214 : decode cX9_holeValue 214 = .ok (.ireturn, 1) := by decide +kernel
theorem dX9_holeValue_215 : decode cX9_holeValue 215 = .ok (.aload_n 0, 1) := by decide +kernel
theorem dX9_holeValue_216 : decode cX9_holeValue 216 = .ok (.getfield 10, 3) := by decide +kernel
theorem dX9_holeValue_219 : decode cX9_holeValue 219 = .ok (.getfield 316, 3) := by decide +kernel
theorem dX9_holeValue_222 : decode cX9_holeValue 222 = .ok (.iload_n 1, 1) := by decide +kernel
theorem dX9_holeValue_223 : decode cX9_holeValue 223 = .ok (.invokestatic 95, 3) := by decide +kernel
theorem dX9_holeValue_226 : decode cX9_holeValue 226 = .ok (.ireturn, 1) := by decide +kernel
theorem dX9_readingValue_0 : decode cX9_readingValue 0 = .ok (.aload_n 0, 1) := by decide +kernel
theorem dX9_readingValue_1 : decode cX9_readingValue 1 = .ok (.getfield 10, 3) := by decide +kernel
theorem dX9_readingValue_4 : decode cX9_readingValue 4 = .ok (.getfield 141, 3) := by decide +kernel
theorem dX9_readingValue_7 : decode cX9_readingValue 7 = .ok (.astore_n 3, 1) := by decide +kernel
theorem dX9_readingValue_8 : decode cX9_readingValue 8 = .ok (.iload_n 2, 1) := by decide +kernel
theorem dX9_readingValue_9 : decode cX9_readingValue 9 = .ok (.tableswitch 73 8 10 #[27, 36, 45], 27) := by decide +kernel
theorem dX9_readingValue_36 : decode cX9_readingValue 36 = .ok (.aload_n 3, 1) := by decide +kernel
theorem dX9_readingValue_37 : decode cX9_readingValue 37 = .ok (.getfield 319, 3) := by decide +kernel
theorem dX9_readingValue_40 : decode cX9_readingValue 40 = .ok (.iload_n 1, 1) := by decide +kernel
theorem dX9_readingValue_41 : decode cX9_readingValue 41 = .ok (.invokestatic 95, 3) := by decide +kernel
theorem dX9_readingValue_44 : decode cX9_readingValue 44 = .ok (.ireturn, 1) := by decide +kernel
theorem dX9_readingValue_45 : decode cX9_readingValue 45 = .ok (.aload_n 3, 1) := by decide +kernel
theorem dX9_readingValue_46 : decode cX9_readingValue 46 = .ok (.getfield 322, 3) := by decide +kernel
theorem dX9_readingValue_49 : decode cX9_readingValue 49 = .ok (.iload_n 1, 1) := by decide +kernel
theorem dX9_readingValue_50 : decode cX9_readingValue 50 = .ok (.invokestatic 95, 3) := by decide +kernel
theorem dX9_readingValue_53 : decode cX9_readingValue 53 = .ok (.ireturn, 1) := by decide +kernel
theorem dX9_readingValue_54 : decode cX9_readingValue 54 = .ok (.aload_n 3, 1) := by decide +kernel
theorem dX9_readingValue_55 : decode cX9_readingValue 55 = .ok (.iload_n 1, 1) := by decide +kernel
theorem dX9_readingValue_56 : decode cX9_readingValue 56 = .ok (.aload_n 0, 1) := by decide +kernel
theorem dX9_readingValue_57 : decode cX9_readingValue 57 = .ok (.getfield 10, 3) := by decide +kernel
theorem dX9_readingValue_60 : decode cX9_readingValue 60 = .ok (.getfield 69, 3) := by decide +kernel
theorem dX9_readingValue_63 : decode cX9_readingValue 63 = .ok (.aload_n 0, 1) := by decide +kernel
theorem dX9_readingValue_64 : decode cX9_readingValue 64 = .ok (.getfield 10, 3) := by decide +kernel
theorem dX9_readingValue_67 : decode cX9_readingValue 67 = .ok (.getfield 79, 3) := by decide +kernel
theorem dX9_readingValue_70 : decode cX9_readingValue 70 = .ok (.invokevirtual 325, 3) := by decide +kernel
theorem dX9_readingValue_73 : decode cX9_readingValue 73 = .ok (.ifCond .eq 7, 3) := by decide +kernel
theorem dX9_readingValue_76 : decode cX9_readingValue 76 = .ok (.iconst 1, 1) := by decide +kernel
theorem dX9_readingValue_77 : decode cX9_readingValue 77 = .ok (.goto 4, 3) := by decide +kernel
theorem dX9_readingValue_80 : decode cX9_readingValue 80 = .ok (.iconst 0, 1) := by decide +kernel
theorem dX9_readingValue_81 : decode cX9_readingValue 81 = .ok (.ireturn, 1) := by decide +kernel
theorem dX9_readingValue_82 : decode cX9_readingValue 82 = .ok (.iload_n 2, 1) := by decide +kernel
theorem dX9_readingValue_83 : decode cX9_readingValue 83 = .ok (.aload_n 3, 1) := by decide +kernel
theorem dX9_readingValue_84 : decode cX9_readingValue 84 = .ok (.getfield 319, 3) := by decide +kernel
theorem dX9_readingValue_87 : decode cX9_readingValue 87 = .ok (.iload_n 1, 1) := by decide +kernel
theorem dX9_readingValue_88 : decode cX9_readingValue 88 = .ok (.invokestatic 95, 3) := by decide +kernel
theorem dX9_readingValue_91 : decode cX9_readingValue 91 = .ok (.if_icmp .ge 12, 3) := by decide +kernel
theorem dX9_readingValue_94 : decode cX9_readingValue 94 = .ok (.aload_n 3, 1) := by decide +kernel
theorem dX9_readingValue_95 : decode cX9_readingValue 95 = .ok (.iload_n 1, 1) := by decide +kernel
theorem dX9_readingValue_96 : decode cX9_readingValue 96 = .ok (.iload_n 2, 1) := by decide +kernel
theorem dX9_readingValue_97 : decode cX9_readingValue 97 = .ok (.invokevirtual 329, 3) := by decide +kernel
theorem dX9_readingValue_100 : decode cX9_readingValue 100 = .ok (.goto 4, 3) := by decide +kernel
theorem dX9_readingValue_103 : decode cX9_readingValue 103 = .ok (.iconst (-1), 1) := by decide +kernel
theorem dX9_readingValue_104 : decode cX9_readingValue 104 = .ok (.ireturn, 1) := by decide +kernel
theorem dX9_flowValue_0 : decode cX9_flowValue 0 = .ok (.aload_n 0, 1) := by decide +kernel
theorem dX9_flowValue_1 : decode cX9_flowValue 1 = .ok (.getfield 10, 3) := by decide +kernel
theorem dX9_flowValue_4 : decode cX9_flowValue 4 = .ok (.getfield 69, 3) := by decide +kernel
theorem dX9_flowValue_7 : decode cX9_flowValue 7 = .ok (.iconst 2, 1) := by decide +kernel
theorem dX9_flowValue_8 : decode cX9_flowValue 8 = .ok (.idiv, 1) := by decide +kernel
theorem dX9_flowValue_9 : decode cX9_flowValue 9 = .ok (.istore_n 3, 1) := by decide +kernel
theorem dX9_flowValue_10 : decode cX9_flowValue 10 = .ok (.iload_n 1, 1) := by decide +kernel
theorem dX9_flowValue_11 : decode cX9_flowValue 11 = .ok (.tableswitch 58 0 2 #[25, 38, 45], 25) := by decide +kernel
theorem dX9_flowValue_36 : decode cX9_flowValue 36 = .ok (.aload_n 2, 1) := by decide +kernel
theorem dX9_flowValue_37 : decode cX9_flowValue 37 = .ok (.iconst 0, 1) := by decide +kernel
theorem dX9_flowValue_38 : decode cX9_flowValue 38 = .ok (.aload_n 0, 1) := by decide +kernel
theorem dX9_flowValue_39 : decode cX9_flowValue 39 = .ok (.getfield 10, 3) := by decide +kernel
theorem dX9_flowValue_42 : decode cX9_flowValue 42 = .ok (.getfield 69, 3) := by decide +kernel
theorem dX9_flowValue_45 : decode cX9_flowValue 45 = .ok (.invokevirtual 313, 3) := by decide +kernel
theorem dX9_flowValue_48 : decode cX9_flowValue 48 = .ok (.ireturn, 1) := by decide +kernel
theorem dX9_flowValue_49 : decode cX9_flowValue 49 = .ok (.aload_n 2, 1) := by decide +kernel
theorem dX9_flowValue_50 : decode cX9_flowValue 50 = .ok (.iconst 0, 1) := by decide +kernel
theorem dX9_flowValue_51 : decode cX9_flowValue 51 = .ok (.iload_n 3, 1) := by decide +kernel
theorem dX9_flowValue_52 : decode cX9_flowValue 52 = .ok (.invokevirtual 313, 3) := by decide +kernel
theorem dX9_flowValue_55 : decode cX9_flowValue 55 = .ok (.ireturn, 1) := by decide +kernel
theorem dX9_flowValue_56 : decode cX9_flowValue 56 = .ok (.aload_n 2, 1) := by decide +kernel
theorem dX9_flowValue_57 : decode cX9_flowValue 57 = .ok (.iload_n 3, 1) := by decide +kernel
theorem dX9_flowValue_58 : decode cX9_flowValue 58 = .ok (.aload_n 0, 1) := by decide +kernel
theorem dX9_flowValue_59 : decode cX9_flowValue 59 = .ok (.getfield 10, 3) := by decide +kernel
theorem dX9_flowValue_62 : decode cX9_flowValue 62 = .ok (.getfield 69, 3) := by decide +kernel
theorem dX9_flowValue_65 : decode cX9_flowValue 65 = .ok (.invokevirtual 313, 3) := by decide +kernel
theorem dX9_flowValue_68 : decode cX9_flowValue 68 = .ok (.ireturn, 1) := by decide +kernel
theorem dX9_flowValue_69 : decode cX9_flowValue 69 = .ok (.aload_n 0, 1) := by decide +kernel
theorem dX9_flowValue_70 : decode cX9_flowValue 70 = .ok (.getfield 10, 3) := by decide +kernel
theorem dX9_flowValue_73 : decode cX9_flowValue 73 = .ok (.aload_n 0, 1) := by decide +kernel
theorem dX9_flowValue_74 : decode cX9_flowValue 74 = .ok (.getfield 10, 3) := by decide +kernel
theorem dX9_flowValue_77 : decode cX9_flowValue 77 = .ok (.getfield 69, 3) := by decide +kernel
theorem dX9_flowValue_80 : decode cX9_flowValue 80 = .ok (.invokestatic 255, 3) := by decide +kernel
theorem dX9_flowValue_83 : decode cX9_flowValue 83 = .ok (.ireturn, 1) := by decide +kernel
theorem dX9_countValue_0 : decode cX9_countValue 0 = .ok (.iload_n 1, 1) := by decide +kernel
theorem dX9_countValue_1 : decode cX9_countValue 1 = .ok (.tableswitch 176 0 12 #[67, 75, 83, 94, 99, 104, 110, 116, 122, 128, 152, 160, 168], 67) := by decide +kernel
theorem dX9_countValue_68 : decode cX9_countValue 68 = .ok (.aload_n 0, 1) := by decide +kernel
theorem dX9_countValue_69 : decode cX9_countValue 69 = .ok (.getfield 10, 3) := by decide +kernel
theorem dX9_countValue_72 : decode cX9_countValue 72 = .ok (.getfield 69, 3) := by decide +kernel
theorem dX9_countValue_75 : decode cX9_countValue 75 = .ok (.ireturn, 1) := by decide +kernel
theorem dX9_countValue_76 : decode cX9_countValue 76 = .ok (.aload_n 0, 1) := by decide +kernel
theorem dX9_countValue_77 : decode cX9_countValue 77 = .ok (.getfield 10, 3) := by decide +kernel
theorem dX9_countValue_80 : decode cX9_countValue 80 = .ok (.getfield 79, 3) := by decide +kernel
theorem dX9_countValue_83 : decode cX9_countValue 83 = .ok (.ireturn, 1) := by decide +kernel
theorem dX9_countValue_84 : decode cX9_countValue 84 = .ok (.aload_n 0, 1) := by decide +kernel
theorem dX9_countValue_85 : decode cX9_countValue 85 = .ok (.getfield 10, 3) := by decide +kernel
theorem dX9_countValue_88 : decode cX9_countValue 88 = .ok (.getfield 141, 3) := by decide +kernel
theorem dX9_countValue_91 : decode cX9_countValue 91 = .ok (.getfield 145, 3) := by decide +kernel
theorem dX9_countValue_94 : decode cX9_countValue 94 = .ok (.ireturn, 1) := by decide +kernel
theorem dX9_countValue_95 : decode cX9_countValue 95 = .ok (.aload_n 2, 1) := by decide +kernel
theorem dX9_countValue_96 : decode cX9_countValue 96 = .ok (.getfield 298, 3) := by decide +kernel
theorem dX9_countValue_99 : decode cX9_countValue 99 = .ok (.ireturn, 1) := by decide +kernel
theorem dX9_countValue_100 : decode cX9_countValue 100 = .ok (.aload_n 2, 1) := by decide +kernel
theorem dX9_countValue_101 : decode cX9_countValue 101 = .ok (.getfield 307, 3) := by decide +kernel
theorem dX9_countValue_104 : decode cX9_countValue 104 = .ok (.ireturn, 1) := by decide +kernel
theorem dX9_countValue_105 : decode cX9_countValue 105 = .ok (.aload_n 2, 1) := by decide +kernel
theorem dX9_countValue_106 : decode cX9_countValue 106 = .ok (.iconst 1, 1) := by decide +kernel
theorem dX9_countValue_107 : decode cX9_countValue 107 = .ok (.invokevirtual 332, 3) := by decide +kernel
theorem dX9_countValue_110 : decode cX9_countValue 110 = .ok (.ireturn, 1) := by decide +kernel
theorem dX9_countValue_111 : decode cX9_countValue 111 = .ok (.aload_n 2, 1) := by decide +kernel
theorem dX9_countValue_112 : decode cX9_countValue 112 = .ok (.iconst 2, 1) := by decide +kernel
theorem dX9_countValue_113 : decode cX9_countValue 113 = .ok (.invokevirtual 332, 3) := by decide +kernel
theorem dX9_countValue_116 : decode cX9_countValue 116 = .ok (.ireturn, 1) := by decide +kernel
theorem dX9_countValue_117 : decode cX9_countValue 117 = .ok (.aload_n 2, 1) := by decide +kernel
theorem dX9_countValue_118 : decode cX9_countValue 118 = .ok (.iconst 3, 1) := by decide +kernel
theorem dX9_countValue_119 : decode cX9_countValue 119 = .ok (.invokevirtual 332, 3) := by decide +kernel
theorem dX9_countValue_122 : decode cX9_countValue 122 = .ok (.ireturn, 1) := by decide +kernel
theorem dX9_countValue_123 : decode cX9_countValue 123 = .ok (.aload_n 2, 1) := by decide +kernel
theorem dX9_countValue_124 : decode cX9_countValue 124 = .ok (.iconst 4, 1) := by decide +kernel
theorem dX9_countValue_125 : decode cX9_countValue 125 = .ok (.invokevirtual 332, 3) := by decide +kernel
theorem dX9_countValue_128 : decode cX9_countValue 128 = .ok (.ireturn, 1) := by decide +kernel
theorem dX9_countValue_129 : decode cX9_countValue 129 = .ok (.aload_n 0, 1) := by decide +kernel
theorem dX9_countValue_130 : decode cX9_countValue 130 = .ok (.getfield 10, 3) := by decide +kernel
theorem dX9_countValue_133 : decode cX9_countValue 133 = .ok (.getfield 335, 3) := by decide +kernel
theorem dX9_countValue_136 : decode cX9_countValue 136 = .ok (.aload_n 0, 1) := by decide +kernel
theorem dX9_countValue_137 : decode cX9_countValue 137 = .ok (.getfield 10, 3) := by decide +kernel
theorem dX9_countValue_140 : decode cX9_countValue 140 = .ok (.getfield 338, 3) := by decide +kernel
theorem dX9_countValue_143 : decode cX9_countValue 143 = .ok (.iadd, 1) := by decide +kernel
theorem dX9_countValue_144 : decode cX9_countValue 144 = .ok (.aload_n 0, 1) := by decide +kernel
theorem dX9_countValue_145 : decode cX9_countValue 145 = .ok (.getfield 10, 3) := by decide +kernel
theorem dX9_countValue_148 : decode cX9_countValue 148 = .ok (.invokevirtual 341, 3) := by decide +kernel
theorem dX9_countValue_151 : decode cX9_countValue 151 = .ok (.iadd, 1) := by decide +kernel
theorem dX9_countValue_152 : decode cX9_countValue 152 = .ok (.ireturn, 1) := by decide +kernel
theorem dX9_countValue_153 : decode cX9_countValue 153 = .ok (.aload_n 0, 1) := by decide +kernel
theorem dX9_countValue_154 : decode cX9_countValue 154 = .ok (.getfield 10, 3) := by decide +kernel
theorem dX9_countValue_157 : decode cX9_countValue 157 = .ok (.getfield 335, 3) := by decide +kernel
theorem dX9_countValue_160 : decode cX9_countValue 160 = .ok (.ireturn, 1) := by decide +kernel
theorem dX9_countValue_161 : decode cX9_countValue 161 = .ok (.aload_n 0, 1) := by decide +kernel
theorem dX9_countValue_162 : decode cX9_countValue 162 = .ok (.getfield 10, 3) := by decide +kernel
theorem dX9_countValue_165 : decode cX9_countValue 165 = .ok (.getfield 338, 3) := by decide +kernel
theorem dX9_countValue_168 : decode cX9_countValue 168 = .ok (.ireturn, 1) := by decide +kernel
theorem dX9_countValue_169 : decode cX9_countValue 169 = .ok (.aload_n 0, 1) := by decide +kernel
theorem dX9_countValue_170 : decode cX9_countValue 170 = .ok (.getfield 10, 3) := by decide +kernel
theorem dX9_countValue_173 : decode cX9_countValue 173 = .ok (.getfield 344, 3) := by decide +kernel
theorem dX9_countValue_176 : decode cX9_countValue 176 = .ok (.ireturn, 1) := by decide +kernel
theorem dX9_countValue_177 : decode cX9_countValue 177 = .ok (.aload_n 0, 1) := by decide +kernel
theorem dX9_countValue_178 : decode cX9_countValue 178 = .ok (.getfield 19, 3) := by decide +kernel
theorem dX9_countValue_181 : decode cX9_countValue 181 = .ok (.getfield 216, 3) := by decide +kernel
theorem dX9_countValue_184 : decode cX9_countValue 184 = .ok (.ireturn, 1) := by decide +kernel
theorem dX9_wholeIfRight_0 : decode cX9_wholeIfRight 0 = .ok (.aload_n 0, 1) := by decide +kernel
theorem dX9_wholeIfRight_1 : decode cX9_wholeIfRight 1 = .ok (.getfield 47, 3) := by decide +kernel
theorem dX9_wholeIfRight_4 : decode cX9_wholeIfRight 4 = .ok (.aload_n 0, 1) := by decide +kernel
theorem dX9_wholeIfRight_5 : decode cX9_wholeIfRight 5 = .ok (.getfield 10, 3) := by decide +kernel
theorem dX9_wholeIfRight_8 : decode cX9_wholeIfRight 8 = .ok (.iload_n 1, 1) := by decide +kernel
theorem dX9_wholeIfRight_9 : decode cX9_wholeIfRight 9 = .ok (.aload_n 0, 1) := by decide +kernel
theorem dX9_wholeIfRight_10 : decode cX9_wholeIfRight 10 = .ok (.getfield 10, 3) := by decide +kernel
theorem dX9_wholeIfRight_13 : decode cX9_wholeIfRight 13 = .ok (.iload_n 1, 1) := by decide +kernel
theorem dX9_wholeIfRight_14 : decode cX9_wholeIfRight 14 = .ok (.invokestatic 127, 3) := by decide +kernel
theorem dX9_wholeIfRight_17 : decode cX9_wholeIfRight 17 = .ok (.invokevirtual 347, 3) := by decide +kernel
theorem dX9_wholeIfRight_20 : decode cX9_wholeIfRight 20 = .ok (.aload_n 0, 1) := by decide +kernel
theorem dX9_wholeIfRight_21 : decode cX9_wholeIfRight 21 = .ok (.getfield 47, 3) := by decide +kernel
theorem dX9_wholeIfRight_24 : decode cX9_wholeIfRight 24 = .ok (.iconst 0, 1) := by decide +kernel
theorem dX9_wholeIfRight_25 : decode cX9_wholeIfRight 25 = .ok (.aload_n 0, 1) := by decide +kernel
theorem dX9_wholeIfRight_26 : decode cX9_wholeIfRight 26 = .ok (.getfield 10, 3) := by decide +kernel
theorem dX9_wholeIfRight_29 : decode cX9_wholeIfRight 29 = .ok (.getfield 69, 3) := by decide +kernel
theorem dX9_wholeIfRight_32 : decode cX9_wholeIfRight 32 = .ok (.invokevirtual 313, 3) := by decide +kernel
theorem dX9_wholeIfRight_35 : decode cX9_wholeIfRight 35 = .ok (.ireturn, 1) := by decide +kernel
theorem dX9_worstHole_0 : decode cX9_worstHole 0 = .ok (.aload_n 1, 1) := by decide +kernel
theorem dX9_worstHole_1 : decode cX9_worstHole 1 = .ok (.getfield 307, 3) := by decide +kernel
theorem dX9_worstHole_4 : decode cX9_worstHole 4 = .ok (.ifCond .ne 5, 3) := by decide +kernel
theorem dX9_worstHole_7 : decode cX9_worstHole 7 = .ok (.iconst (-1), 1) := by decide +kernel
theorem dX9_worstHole_8 : decode cX9_worstHole 8 = .ok (.ireturn, 1) := by decide +kernel
theorem dX9_worstHole_9 : decode cX9_worstHole 9 = .ok (.aload_n 1, 1) := by decide +kernel
theorem dX9_worstHole_10 : decode cX9_worstHole 10 = .ok (.iconst 0, 1) := by decide +kernel
theorem dX9_worstHole_11 : decode cX9_worstHole 11 = .ok (.aload_n 0, 1) := by decide +kernel
theorem dX9_worstHole_12 : decode cX9_worstHole 12 = .ok (.getfield 10, 3) := by decide +kernel
theorem dX9_worstHole_15 : decode cX9_worstHole 15 = .ok (.getfield 69, 3) := by decide +kernel
theorem dX9_worstHole_18 : decode cX9_worstHole 18 = .ok (.invokevirtual 313, 3) := by decide +kernel
theorem dX9_worstHole_21 : decode cX9_worstHole 21 = .ok (.istore_n 2, 1) := by decide +kernel
theorem dX9_worstHole_22 : decode cX9_worstHole 22 = .ok (.iconst (-1), 1) := by decide +kernel
theorem dX9_worstHole_23 : decode cX9_worstHole 23 = .ok (.istore_n 3, 1) := by decide +kernel
theorem dX9_worstHole_24 : decode cX9_worstHole 24 = .ok (.iconst (-1), 1) := by decide +kernel
theorem dX9_worstHole_25 : decode cX9_worstHole 25 = .ok (.istore 4, 2) := by decide +kernel
theorem dX9_worstHole_27 : decode cX9_worstHole 27 = .ok (.iconst 0, 1) := by decide +kernel
theorem dX9_worstHole_28 : decode cX9_worstHole 28 = .ok (.istore 5, 2) := by decide +kernel
theorem dX9_worstHole_30 : decode cX9_worstHole 30 = .ok (.iload 5, 2) := by decide +kernel
theorem dX9_worstHole_32 : decode cX9_worstHole 32 = .ok (.aload_n 0, 1) := by decide +kernel
theorem dX9_worstHole_33 : decode cX9_worstHole 33 = .ok (.getfield 10, 3) := by decide +kernel
theorem dX9_worstHole_36 : decode cX9_worstHole 36 = .ok (.getfield 69, 3) := by decide +kernel
theorem dX9_worstHole_39 : decode cX9_worstHole 39 = .ok (.if_icmp .ge 46, 3) := by decide +kernel
theorem dX9_worstHole_42 : decode cX9_worstHole 42 = .ok (.aload_n 0, 1) := by decide +kernel
theorem dX9_worstHole_43 : decode cX9_worstHole 43 = .ok (.iload 5, 2) := by decide +kernel
theorem dX9_worstHole_45 : decode cX9_worstHole 45 = .ok (.invokevirtual 248, 3) := by decide +kernel
theorem dX9_worstHole_48 : decode cX9_worstHole 48 = .ok (.istore 6, 2) := by decide +kernel
theorem dX9_worstHole_50 : decode cX9_worstHole 50 = .ok (.iload 6, 2) := by decide +kernel
theorem dX9_worstHole_52 : decode cX9_worstHole 52 = .ok (.iload_n 2, 1) := by decide +kernel
theorem dX9_worstHole_53 : decode cX9_worstHole 53 = .ok (.isub, 1) := by decide +kernel
theorem dX9_worstHole_54 : decode cX9_worstHole 54 = .ok (.invokestatic 351, 3) := by decide +kernel
theorem dX9_worstHole_57 : decode cX9_worstHole 57 = .ok (.istore 7, 2) := by decide +kernel
theorem dX9_worstHole_59 : decode cX9_worstHole 59 = .ok (.iload 6, 2) := by decide +kernel
theorem dX9_worstHole_61 : decode cX9_worstHole 61 = .ok (.iconst (-1), 1) := by decide +kernel
theorem dX9_worstHole_62 : decode cX9_worstHole 62 = .ok (.if_icmp .eq 17, 3) := by decide +kernel
theorem dX9_worstHole_65 : decode cX9_worstHole 65 = .ok (.iload 7, 2) := by decide +kernel
theorem dX9_worstHole_67 : decode cX9_worstHole 67 = .ok (.iload 4, 2) := by decide +kernel
theorem dX9_worstHole_69 : decode cX9_worstHole 69 = .ok (.if_icmp .le 10, 3) := by decide +kernel
theorem dX9_worstHole_72 : decode cX9_worstHole 72 = .ok (.iload 7, 2) := by decide +kernel
theorem dX9_worstHole_74 : decode cX9_worstHole 74 = .ok (.istore 4, 2) := by decide +kernel
theorem dX9_worstHole_76 : decode cX9_worstHole 76 = .ok (.iload 5, 2) := by decide +kernel
theorem dX9_worstHole_78 : decode cX9_worstHole 78 = .ok (.istore_n 3, 1) := by decide +kernel
theorem dX9_worstHole_79 : decode cX9_worstHole 79 = .ok (.iinc 5 1, 3) := by decide +kernel
theorem dX9_worstHole_82 : decode cX9_worstHole 82 = .ok (.goto (-52), 3) := by decide +kernel
theorem dX9_worstHole_85 : decode cX9_worstHole 85 = .ok (.iload_n 3, 1) := by decide +kernel
theorem dX9_worstHole_86 : decode cX9_worstHole 86 = .ok (.ireturn, 1) := by decide +kernel
theorem dX9_fewestHoles_0 : decode cX9_fewestHoles 0 = .ok (.aload_n 0, 1) := by decide +kernel
theorem dX9_fewestHoles_1 : decode cX9_fewestHoles 1 = .ok (.getfield 10, 3) := by decide +kernel
theorem dX9_fewestHoles_4 : decode cX9_fewestHoles 4 = .ok (.bipush 8, 2) := by decide +kernel
theorem dX9_fewestHoles_6 : decode cX9_fewestHoles 6 = .ok (.invokestatic 255, 3) := by decide +kernel
theorem dX9_fewestHoles_9 : decode cX9_fewestHoles 9 = .ok (.istore_n 2, 1) := by decide +kernel
theorem dX9_fewestHoles_10 : decode cX9_fewestHoles 10 = .ok (.iconst 2, 1) := by decide +kernel
theorem dX9_fewestHoles_11 : decode cX9_fewestHoles 11 = .ok (.istore_n 3, 1) := by decide +kernel
theorem dX9_fewestHoles_12 : decode cX9_fewestHoles 12 = .ok (.iload_n 3, 1) := by decide +kernel
theorem dX9_fewestHoles_13 : decode cX9_fewestHoles 13 = .ok (.bipush 8, 2) := by decide +kernel
theorem dX9_fewestHoles_15 : decode cX9_fewestHoles 15 = .ok (.if_icmp .ge 28, 3) := by decide +kernel
theorem dX9_fewestHoles_18 : decode cX9_fewestHoles 18 = .ok (.aload_n 0, 1) := by decide +kernel
theorem dX9_fewestHoles_19 : decode cX9_fewestHoles 19 = .ok (.getfield 10, 3) := by decide +kernel
theorem dX9_fewestHoles_22 : decode cX9_fewestHoles 22 = .ok (.iload_n 3, 1) := by decide +kernel
theorem dX9_fewestHoles_23 : decode cX9_fewestHoles 23 = .ok (.invokestatic 255, 3) := by decide +kernel
theorem dX9_fewestHoles_26 : decode cX9_fewestHoles 26 = .ok (.iload_n 2, 1) := by decide +kernel
theorem dX9_fewestHoles_27 : decode cX9_fewestHoles 27 = .ok (.isub, 1) := by decide +kernel
theorem dX9_fewestHoles_28 : decode cX9_fewestHoles 28 = .ok (.invokestatic 351, 3) := by decide +kernel
theorem dX9_fewestHoles_31 : decode cX9_fewestHoles 31 = .ok (.iload_n 1, 1) := by decide +kernel
theorem dX9_fewestHoles_32 : decode cX9_fewestHoles 32 = .ok (.if_icmp .gt 5, 3) := by decide +kernel
theorem dX9_fewestHoles_35 : decode cX9_fewestHoles 35 = .ok (.iload_n 3, 1) := by decide +kernel
theorem dX9_fewestHoles_36 : decode cX9_fewestHoles 36 = .ok (.ireturn, 1) := by decide +kernel
theorem dX9_fewestHoles_37 : decode cX9_fewestHoles 37 = .ok (.iinc 3 1, 3) := by decide +kernel
theorem dX9_fewestHoles_40 : decode cX9_fewestHoles 40 = .ok (.goto (-28), 3) := by decide +kernel
theorem dX9_fewestHoles_43 : decode cX9_fewestHoles 43 = .ok (.bipush 8, 2) := by decide +kernel
theorem dX9_fewestHoles_45 : decode cX9_fewestHoles 45 = .ok (.ireturn, 1) := by decide +kernel
theorem dJ9_abs_0f7a4_0 : decode cJ9_abs_0f7a4 0 = .ok (.iload_n 0, 1) := by decide +kernel
theorem dJ9_abs_0f7a4_1 : decode cJ9_abs_0f7a4 1 = .ok (.ifCond .ge 8, 3) := by decide +kernel
theorem dJ9_abs_0f7a4_4 : decode cJ9_abs_0f7a4 4 = .ok (.iload_n 0, 1) := by decide +kernel
theorem dJ9_abs_0f7a4_5 : decode cJ9_abs_0f7a4 5 = .ok (.ineg, 1) := by decide +kernel
theorem dJ9_abs_0f7a4_6 : decode cJ9_abs_0f7a4 6 = .ok (.goto 4, 3) := by decide +kernel
theorem dJ9_abs_0f7a4_9 : decode cJ9_abs_0f7a4 9 = .ok (.iload_n 0, 1) := by decide +kernel
theorem dJ9_abs_0f7a4_10 : decode cJ9_abs_0f7a4 10 = .ok (.ireturn, 1) := by decide +kernel
theorem dJ9_max_7cf53_0 : decode cJ9_max_7cf53 0 = .ok (.iload_n 0, 1) := by decide +kernel
theorem dJ9_max_7cf53_1 : decode cJ9_max_7cf53 1 = .ok (.iload_n 1, 1) := by decide +kernel
theorem dJ9_max_7cf53_2 : decode cJ9_max_7cf53 2 = .ok (.if_icmp .lt 7, 3) := by decide +kernel
theorem dJ9_max_7cf53_5 : decode cJ9_max_7cf53 5 = .ok (.iload_n 0, 1) := by decide +kernel
theorem dJ9_max_7cf53_6 : decode cJ9_max_7cf53 6 = .ok (.goto 4, 3) := by decide +kernel
theorem dJ9_max_7cf53_9 : decode cJ9_max_7cf53 9 = .ok (.iload_n 1, 1) := by decide +kernel
theorem dJ9_max_7cf53_10 : decode cJ9_max_7cf53 10 = .ok (.ireturn, 1) := by decide +kernel
theorem dJ9_min_7cf53_0 : decode cJ9_min_7cf53 0 = .ok (.iload_n 0, 1) := by decide +kernel
theorem dJ9_min_7cf53_1 : decode cJ9_min_7cf53 1 = .ok (.iload_n 1, 1) := by decide +kernel
theorem dJ9_min_7cf53_2 : decode cJ9_min_7cf53 2 = .ok (.if_icmp .gt 7, 3) := by decide +kernel
theorem dJ9_min_7cf53_5 : decode cJ9_min_7cf53 5 = .ok (.iload_n 0, 1) := by decide +kernel
theorem dJ9_min_7cf53_6 : decode cJ9_min_7cf53 6 = .ok (.goto 4, 3) := by decide +kernel
theorem dJ9_min_7cf53_9 : decode cJ9_min_7cf53 9 = .ok (.iload_n 1, 1) := by decide +kernel
theorem dJ9_min_7cf53_10 : decode cJ9_min_7cf53 10 = .ok (.ireturn, 1) := by decide +kernel
theorem dL_cell_0 : decode cL_cell 0 = .ok (.iload_n 1, 1) := by decide +kernel
theorem dL_cell_1 : decode cL_cell 1 = .ok (.aload_n 0, 1) := by decide +kernel
theorem dL_cell_2 : decode cL_cell 2 = .ok (.arraylength, 1) := by decide +kernel
theorem dL_cell_3 : decode cL_cell 3 = .ok (.if_icmp .ge 9, 3) := by decide +kernel
theorem dL_cell_6 : decode cL_cell 6 = .ok (.aload_n 0, 1) := by decide +kernel
theorem dL_cell_7 : decode cL_cell 7 = .ok (.iload_n 1, 1) := by decide +kernel
theorem dL_cell_8 : decode cL_cell 8 = .ok (.iaload, 1) := by decide +kernel
theorem dL_cell_9 : decode cL_cell 9 = .ok (.goto 15, 3) := by decide +kernel
theorem dL_cell_12 : decode cL_cell 12 = .ok (.sipush 7919, 3) := by decide +kernel
theorem dL_cell_15 : decode cL_cell 15 = .ok (.iload_n 1, 1) := by decide +kernel
theorem dL_cell_16 : decode cL_cell 16 = .ok (.iconst 3, 1) := by decide +kernel
theorem dL_cell_17 : decode cL_cell 17 = .ok (.iadd, 1) := by decide +kernel
theorem dL_cell_18 : decode cL_cell 18 = .ok (.imul, 1) := by decide +kernel
theorem dL_cell_19 : decode cL_cell 19 = .ok (.iload_n 1, 1) := by decide +kernel
theorem dL_cell_20 : decode cL_cell 20 = .ok (.bipush 11, 2) := by decide +kernel
theorem dL_cell_22 : decode cL_cell 22 = .ok (.iadd, 1) := by decide +kernel
theorem dL_cell_23 : decode cL_cell 23 = .ok (.imul, 1) := by decide +kernel
theorem dL_cell_24 : decode cL_cell 24 = .ok (.ireturn, 1) := by decide +kernel
theorem dL_low_0 : decode cL_low 0 = .ok (.iload_n 0, 1) := by decide +kernel
theorem dL_low_1 : decode cL_low 1 = .ok (.ldc 7, 2) := by decide +kernel
theorem dL_low_3 : decode cL_low 3 = .ok (.iand, 1) := by decide +kernel
theorem dL_low_4 : decode cL_low 4 = .ok (.iload_n 1, 1) := by decide +kernel
theorem dL_low_5 : decode cL_low 5 = .ok (.irem, 1) := by decide +kernel
theorem dL_low_6 : decode cL_low 6 = .ok (.ireturn, 1) := by decide +kernel
theorem dL_told_0 : decode cL_told 0 = .ok (.ldc2_w 8, 3) := by decide +kernel
theorem dL_told_3 : decode cL_told 3 = .ok (.lstore_n 1, 1) := by decide +kernel
theorem dL_told_4 : decode cL_told 4 = .ok (.iconst 0, 1) := by decide +kernel
theorem dL_told_5 : decode cL_told 5 = .ok (.istore_n 3, 1) := by decide +kernel
theorem dL_told_6 : decode cL_told 6 = .ok (.iload_n 3, 1) := by decide +kernel
theorem dL_told_7 : decode cL_told 7 = .ok (.bipush 13, 2) := by decide +kernel
theorem dL_told_9 : decode cL_told 9 = .ok (.if_icmp .ge 22, 3) := by decide +kernel
theorem dL_told_12 : decode cL_told 12 = .ok (.ldc2_w 10, 3) := by decide +kernel
theorem dL_told_15 : decode cL_told 15 = .ok (.lload_n 1, 1) := by decide +kernel
theorem dL_told_16 : decode cL_told 16 = .ok (.lmul, 1) := by decide +kernel
theorem dL_told_17 : decode cL_told 17 = .ok (.aload_n 0, 1) := by decide +kernel
theorem dL_told_18 : decode cL_told 18 = .ok (.iload_n 3, 1) := by decide +kernel
theorem dL_told_19 : decode cL_told 19 = .ok (.invokevirtual 12, 3) := by decide +kernel
theorem dL_told_22 : decode cL_told 22 = .ok (.i2l, 1) := by decide +kernel
theorem dL_told_23 : decode cL_told 23 = .ok (.ladd, 1) := by decide +kernel
theorem dL_told_24 : decode cL_told 24 = .ok (.lstore_n 1, 1) := by decide +kernel
theorem dL_told_25 : decode cL_told 25 = .ok (.iinc 3 1, 3) := by decide +kernel
theorem dL_told_28 : decode cL_told 28 = .ok (.goto (-22), 3) := by decide +kernel
theorem dL_told_31 : decode cL_told 31 = .ok (.iconst 0, 1) := by decide +kernel
theorem dL_told_32 : decode cL_told 32 = .ok (.istore_n 3, 1) := by decide +kernel
theorem dL_told_33 : decode cL_told 33 = .ok (.iload_n 3, 1) := by decide +kernel
theorem dL_told_34 : decode cL_told 34 = .ok (.iconst 5, 1) := by decide +kernel
theorem dL_told_35 : decode cL_told 35 = .ok (.if_icmp .ge 22, 3) := by decide +kernel
theorem dL_told_38 : decode cL_told 38 = .ok (.ldc2_w 10, 3) := by decide +kernel
theorem dL_told_41 : decode cL_told 41 = .ok (.lload_n 1, 1) := by decide +kernel
theorem dL_told_42 : decode cL_told 42 = .ok (.lmul, 1) := by decide +kernel
theorem dL_told_43 : decode cL_told 43 = .ok (.aload_n 0, 1) := by decide +kernel
theorem dL_told_44 : decode cL_told 44 = .ok (.iload_n 3, 1) := by decide +kernel
theorem dL_told_45 : decode cL_told 45 = .ok (.invokevirtual 18, 3) := by decide +kernel
theorem dL_told_48 : decode cL_told 48 = .ok (.i2l, 1) := by decide +kernel
theorem dL_told_49 : decode cL_told 49 = .ok (.ladd, 1) := by decide +kernel
theorem dL_told_50 : decode cL_told 50 = .ok (.lstore_n 1, 1) := by decide +kernel
theorem dL_told_51 : decode cL_told 51 = .ok (.iinc 3 1, 3) := by decide +kernel
theorem dL_told_54 : decode cL_told 54 = .ok (.goto (-21), 3) := by decide +kernel
theorem dL_told_57 : decode cL_told 57 = .ok (.iconst 0, 1) := by decide +kernel
theorem dL_told_58 : decode cL_told 58 = .ok (.istore_n 3, 1) := by decide +kernel
theorem dL_told_59 : decode cL_told 59 = .ok (.iload_n 3, 1) := by decide +kernel
theorem dL_told_60 : decode cL_told 60 = .ok (.aload_n 0, 1) := by decide +kernel
theorem dL_told_61 : decode cL_told 61 = .ok (.iconst 0, 1) := by decide +kernel
theorem dL_told_62 : decode cL_told 62 = .ok (.invokevirtual 12, 3) := by decide +kernel
theorem dL_told_65 : decode cL_told 65 = .ok (.if_icmp .ge 40, 3) := by decide +kernel
theorem dL_told_68 : decode cL_told 68 = .ok (.iconst 0, 1) := by decide +kernel
theorem dL_told_69 : decode cL_told 69 = .ok (.istore 4, 2) := by decide +kernel
theorem dL_told_71 : decode cL_told 71 = .ok (.iload 4, 2) := by decide +kernel
theorem dL_told_73 : decode cL_told 73 = .ok (.bipush 12, 2) := by decide +kernel
theorem dL_told_75 : decode cL_told 75 = .ok (.if_icmp .ge 24, 3) := by decide +kernel
theorem dL_told_78 : decode cL_told 78 = .ok (.ldc2_w 10, 3) := by decide +kernel
theorem dL_told_81 : decode cL_told 81 = .ok (.lload_n 1, 1) := by decide +kernel
theorem dL_told_82 : decode cL_told 82 = .ok (.lmul, 1) := by decide +kernel
theorem dL_told_83 : decode cL_told 83 = .ok (.aload_n 0, 1) := by decide +kernel
theorem dL_told_84 : decode cL_told 84 = .ok (.iload_n 3, 1) := by decide +kernel
theorem dL_told_85 : decode cL_told 85 = .ok (.iload 4, 2) := by decide +kernel
theorem dL_told_87 : decode cL_told 87 = .ok (.invokevirtual 21, 3) := by decide +kernel
theorem dL_told_90 : decode cL_told 90 = .ok (.i2l, 1) := by decide +kernel
theorem dL_told_91 : decode cL_told 91 = .ok (.ladd, 1) := by decide +kernel
theorem dL_told_92 : decode cL_told 92 = .ok (.lstore_n 1, 1) := by decide +kernel
theorem dL_told_93 : decode cL_told 93 = .ok (.iinc 4 1, 3) := by decide +kernel
theorem dL_told_96 : decode cL_told 96 = .ok (.goto (-25), 3) := by decide +kernel
theorem dL_told_99 : decode cL_told 99 = .ok (.iinc 3 1, 3) := by decide +kernel
theorem dL_told_102 : decode cL_told 102 = .ok (.goto (-43), 3) := by decide +kernel
theorem dL_told_105 : decode cL_told 105 = .ok (.iconst 0, 1) := by decide +kernel
theorem dL_told_106 : decode cL_told 106 = .ok (.istore_n 3, 1) := by decide +kernel
theorem dL_told_107 : decode cL_told 107 = .ok (.iload_n 3, 1) := by decide +kernel
theorem dL_told_108 : decode cL_told 108 = .ok (.aload_n 0, 1) := by decide +kernel
theorem dL_told_109 : decode cL_told 109 = .ok (.iconst 2, 1) := by decide +kernel
theorem dL_told_110 : decode cL_told 110 = .ok (.invokevirtual 12, 3) := by decide +kernel
theorem dL_told_113 : decode cL_told 113 = .ok (.if_icmp .ge 40, 3) := by decide +kernel
theorem dL_told_116 : decode cL_told 116 = .ok (.iconst 0, 1) := by decide +kernel
theorem dL_told_117 : decode cL_told 117 = .ok (.istore 4, 2) := by decide +kernel
theorem dL_told_119 : decode cL_told 119 = .ok (.iload 4, 2) := by decide +kernel
theorem dL_told_121 : decode cL_told 121 = .ok (.bipush 11, 2) := by decide +kernel
theorem dL_told_123 : decode cL_told 123 = .ok (.if_icmp .ge 24, 3) := by decide +kernel
theorem dL_told_126 : decode cL_told 126 = .ok (.ldc2_w 10, 3) := by decide +kernel
theorem dL_told_129 : decode cL_told 129 = .ok (.lload_n 1, 1) := by decide +kernel
theorem dL_told_130 : decode cL_told 130 = .ok (.lmul, 1) := by decide +kernel
theorem dL_told_131 : decode cL_told 131 = .ok (.aload_n 0, 1) := by decide +kernel
theorem dL_told_132 : decode cL_told 132 = .ok (.iload_n 3, 1) := by decide +kernel
theorem dL_told_133 : decode cL_told 133 = .ok (.iload 4, 2) := by decide +kernel
theorem dL_told_135 : decode cL_told 135 = .ok (.invokevirtual 25, 3) := by decide +kernel
theorem dL_told_138 : decode cL_told 138 = .ok (.i2l, 1) := by decide +kernel
theorem dL_told_139 : decode cL_told 139 = .ok (.ladd, 1) := by decide +kernel
theorem dL_told_140 : decode cL_told 140 = .ok (.lstore_n 1, 1) := by decide +kernel
theorem dL_told_141 : decode cL_told 141 = .ok (.iinc 4 1, 3) := by decide +kernel
theorem dL_told_144 : decode cL_told 144 = .ok (.goto (-25), 3) := by decide +kernel
theorem dL_told_147 : decode cL_told 147 = .ok (.iinc 3 1, 3) := by decide +kernel
theorem dL_told_150 : decode cL_told 150 = .ok (.goto (-43), 3) := by decide +kernel
theorem dL_told_153 : decode cL_told 153 = .ok (.lload_n 1, 1) := by decide +kernel
theorem dL_told_154 : decode cL_told 154 = .ok (.lreturn, 1) := by decide +kernel
theorem dL_act_0 : decode cL_act 0 = .ok (.iload_n 1, 1) := by decide +kernel
theorem dL_act_1 : decode cL_act 1 = .ok (.iconst 4, 1) := by decide +kernel
theorem dL_act_2 : decode cL_act 2 = .ok (.ishr, 1) := by decide +kernel
theorem dL_act_3 : decode cL_act 3 = .ok (.aload_n 0, 1) := by decide +kernel
theorem dL_act_4 : decode cL_act 4 = .ok (.iconst 0, 1) := by decide +kernel
theorem dL_act_5 : decode cL_act 5 = .ok (.invokevirtual 12, 3) := by decide +kernel
theorem dL_act_8 : decode cL_act 8 = .ok (.invokestatic 28, 3) := by decide +kernel
theorem dL_act_11 : decode cL_act 11 = .ok (.istore_n 3, 1) := by decide +kernel
theorem dL_act_12 : decode cL_act 12 = .ok (.iload_n 1, 1) := by decide +kernel
theorem dL_act_13 : decode cL_act 13 = .ok (.bipush 15, 2) := by decide +kernel
theorem dL_act_15 : decode cL_act 15 = .ok (.iand, 1) := by decide +kernel
theorem dL_act_16 : decode cL_act 16 = .ok (.tableswitch 323 0 10 #[60, 134, 147, 176, 176, 188, 200, 206, 206, 212, 239], 60) := by decide +kernel
theorem dL_act_76 : decode cL_act 76 = .ok (.iload_n 2, 1) := by decide +kernel
theorem dL_act_77 : decode cL_act 77 = .ok (.iconst 5, 1) := by decide +kernel
theorem dL_act_78 : decode cL_act 78 = .ok (.invokestatic 28, 3) := by decide +kernel
theorem dL_act_81 : decode cL_act 81 = .ok (.istore 4, 2) := by decide +kernel
theorem dL_act_83 : decode cL_act 83 = .ok (.aload_n 0, 1) := by decide +kernel
theorem dL_act_84 : decode cL_act 84 = .ok (.iload 4, 2) := by decide +kernel
theorem dL_act_86 : decode cL_act 86 = .ok (.iload 4, 2) := by decide +kernel
theorem dL_act_88 : decode cL_act 88 = .ok (.ifCond .ne 15, 3) := by decide +kernel
theorem dL_act_91 : decode cL_act 91 = .ok (.iload_n 2, 1) := by decide +kernel
theorem dL_act_92 : decode cL_act 92 = .ok (.iconst 3, 1) := by decide +kernel
theorem dL_act_93 : decode cL_act 93 = .ok (.ishr, 1) := by decide +kernel
theorem dL_act_94 : decode cL_act 94 = .ok (.sipush 20001, 3) := by decide +kernel
theorem dL_act_97 : decode cL_act 97 = .ok (.invokestatic 28, 3) := by decide +kernel
theorem dL_act_100 : decode cL_act 100 = .ok (.goto 46, 3) := by decide +kernel
theorem dL_act_103 : decode cL_act 103 = .ok (.iload 4, 2) := by decide +kernel
theorem dL_act_105 : decode cL_act 105 = .ok (.iconst 2, 1) := by decide +kernel
theorem dL_act_106 : decode cL_act 106 = .ok (.if_icmp .ne 15, 3) := by decide +kernel
theorem dL_act_109 : decode cL_act 109 = .ok (.iload_n 2, 1) := by decide +kernel
theorem dL_act_110 : decode cL_act 110 = .ok (.iconst 3, 1) := by decide +kernel
theorem dL_act_111 : decode cL_act 111 = .ok (.ishr, 1) := by decide +kernel
theorem dL_act_112 : decode cL_act 112 = .ok (.sipush 2001, 3) := by decide +kernel
theorem dL_act_115 : decode cL_act 115 = .ok (.invokestatic 28, 3) := by decide +kernel
theorem dL_act_118 : decode cL_act 118 = .ok (.goto 28, 3) := by decide +kernel
theorem dL_act_121 : decode cL_act 121 = .ok (.iload 4, 2) := by decide +kernel
theorem dL_act_123 : decode cL_act 123 = .ok (.iconst 4, 1) := by decide +kernel
theorem dL_act_124 : decode cL_act 124 = .ok (.if_icmp .ne 14, 3) := by decide +kernel
theorem dL_act_127 : decode cL_act 127 = .ok (.iload_n 2, 1) := by decide +kernel
theorem dL_act_128 : decode cL_act 128 = .ok (.iconst 3, 1) := by decide +kernel
theorem dL_act_129 : decode cL_act 129 = .ok (.ishr, 1) := by decide +kernel
theorem dL_act_130 : decode cL_act 130 = .ok (.bipush 51, 2) := by decide +kernel
theorem dL_act_132 : decode cL_act 132 = .ok (.invokestatic 28, 3) := by decide +kernel
theorem dL_act_135 : decode cL_act 135 = .ok (.goto 11, 3) := by decide +kernel
theorem dL_act_138 : decode cL_act 138 = .ok (.iload_n 2, 1) := by decide +kernel
theorem dL_act_139 : decode cL_act 139 = .ok (.iconst 3, 1) := by decide +kernel
theorem dL_act_140 : decode cL_act 140 = .ok (.ishr, 1) := by decide +kernel
theorem dL_act_141 : decode cL_act 141 = .ok (.bipush 101, 2) := by decide +kernel
theorem dL_act_143 : decode cL_act 143 = .ok (.invokestatic 28, 3) := by decide +kernel
theorem dL_act_146 : decode cL_act 146 = .ok (.invokevirtual 33, 3) := by decide +kernel
theorem dL_act_149 : decode cL_act 149 = .ok (.ireturn, 1) := by decide +kernel
theorem dL_act_150 : decode cL_act 150 = .ok (.aload_n 0, 1) := by decide +kernel
theorem dL_act_151 : decode cL_act 151 = .ok (.iconst 2, 1) := by decide +kernel
theorem dL_act_152 : decode cL_act 152 = .ok (.iload_n 2, 1) := by decide +kernel
theorem dL_act_153 : decode cL_act 153 = .ok (.bipush 7, 2) := by decide +kernel
theorem dL_act_155 : decode cL_act 155 = .ok (.invokestatic 28, 3) := by decide +kernel
theorem dL_act_158 : decode cL_act 158 = .ok (.iadd, 1) := by decide +kernel
theorem dL_act_159 : decode cL_act 159 = .ok (.invokevirtual 36, 3) := by decide +kernel
theorem dL_act_162 : decode cL_act 162 = .ok (.ireturn, 1) := by decide +kernel
theorem dL_act_163 : decode cL_act 163 = .ok (.aload_n 0, 1) := by decide +kernel
theorem dL_act_164 : decode cL_act 164 = .ok (.iload_n 2, 1) := by decide +kernel
theorem dL_act_165 : decode cL_act 165 = .ok (.bipush 20, 2) := by decide +kernel
theorem dL_act_167 : decode cL_act 167 = .ok (.ishr, 1) := by decide +kernel
theorem dL_act_168 : decode cL_act 168 = .ok (.iconst 1, 1) := by decide +kernel
theorem dL_act_169 : decode cL_act 169 = .ok (.iand, 1) := by decide +kernel
theorem dL_act_170 : decode cL_act 170 = .ok (.ifCond .ne 8, 3) := by decide +kernel
theorem dL_act_173 : decode cL_act 173 = .ok (.bipush 100, 2) := by decide +kernel
theorem dL_act_175 : decode cL_act 175 = .ok (.goto 13, 3) := by decide +kernel
theorem dL_act_178 : decode cL_act 178 = .ok (.bipush 50, 2) := by decide +kernel
theorem dL_act_180 : decode cL_act 180 = .ok (.iload_n 2, 1) := by decide +kernel
theorem dL_act_181 : decode cL_act 181 = .ok (.sipush 451, 3) := by decide +kernel
theorem dL_act_184 : decode cL_act 184 = .ok (.invokestatic 28, 3) := by decide +kernel
theorem dL_act_187 : decode cL_act 187 = .ok (.iadd, 1) := by decide +kernel
theorem dL_act_188 : decode cL_act 188 = .ok (.invokevirtual 39, 3) := by decide +kernel
theorem dL_act_191 : decode cL_act 191 = .ok (.ireturn, 1) := by decide +kernel
theorem dL_act_192 : decode cL_act 192 = .ok (.aload_n 0, 1) := by decide +kernel
theorem dL_act_193 : decode cL_act 193 = .ok (.iload_n 3, 1) := by decide +kernel
theorem dL_act_194 : decode cL_act 194 = .ok (.iload_n 2, 1) := by decide +kernel
theorem dL_act_195 : decode cL_act 195 = .ok (.bipush 101, 2) := by decide +kernel
theorem dL_act_197 : decode cL_act 197 = .ok (.invokestatic 28, 3) := by decide +kernel
theorem dL_act_200 : decode cL_act 200 = .ok (.invokevirtual 42, 3) := by decide +kernel
theorem dL_act_203 : decode cL_act 203 = .ok (.ireturn, 1) := by decide +kernel
theorem dL_act_204 : decode cL_act 204 = .ok (.aload_n 0, 1) := by decide +kernel
theorem dL_act_205 : decode cL_act 205 = .ok (.iload_n 3, 1) := by decide +kernel
theorem dL_act_206 : decode cL_act 206 = .ok (.iload_n 2, 1) := by decide +kernel
theorem dL_act_207 : decode cL_act 207 = .ok (.bipush 101, 2) := by decide +kernel
theorem dL_act_209 : decode cL_act 209 = .ok (.invokestatic 28, 3) := by decide +kernel
theorem dL_act_212 : decode cL_act 212 = .ok (.invokevirtual 45, 3) := by decide +kernel
theorem dL_act_215 : decode cL_act 215 = .ok (.ireturn, 1) := by decide +kernel
theorem dL_act_216 : decode cL_act 216 = .ok (.aload_n 0, 1) := by decide +kernel
theorem dL_act_217 : decode cL_act 217 = .ok (.iload_n 3, 1) := by decide +kernel
theorem dL_act_218 : decode cL_act 218 = .ok (.invokevirtual 48, 3) := by decide +kernel
theorem dL_act_221 : decode cL_act 221 = .ok (.ireturn, 1) := by decide +kernel
theorem dL_act_222 : decode cL_act 222 = .ok (.aload_n 0, 1) := by decide +kernel
theorem dL_act_223 : decode cL_act 223 = .ok (.iload_n 3, 1) := by decide +kernel
theorem dL_act_224 : decode cL_act 224 = .ok (.invokevirtual 51, 3) := by decide +kernel
theorem dL_act_227 : decode cL_act 227 = .ok (.ireturn, 1) := by decide +kernel
theorem dL_act_228 : decode cL_act 228 = .ok (.aload_n 0, 1) := by decide +kernel
theorem dL_act_229 : decode cL_act 229 = .ok (.iconst 2, 1) := by decide +kernel
theorem dL_act_230 : decode cL_act 230 = .ok (.invokevirtual 12, 3) := by decide +kernel
theorem dL_act_233 : decode cL_act 233 = .ok (.ifCond .ne 8, 3) := by decide +kernel
theorem dL_act_236 : decode cL_act 236 = .ok (.bipush (-9), 2) := by decide +kernel
theorem dL_act_238 : decode cL_act 238 = .ok (.goto 16, 3) := by decide +kernel
theorem dL_act_241 : decode cL_act 241 = .ok (.aload_n 0, 1) := by decide +kernel
theorem dL_act_242 : decode cL_act 242 = .ok (.iload_n 2, 1) := by decide +kernel
theorem dL_act_243 : decode cL_act 243 = .ok (.aload_n 0, 1) := by decide +kernel
theorem dL_act_244 : decode cL_act 244 = .ok (.iconst 2, 1) := by decide +kernel
theorem dL_act_245 : decode cL_act 245 = .ok (.invokevirtual 12, 3) := by decide +kernel
theorem dL_act_248 : decode cL_act 248 = .ok (.invokestatic 28, 3) := by decide +kernel
theorem dL_act_251 : decode cL_act 251 = .ok (.invokevirtual 54, 3) := by decide +kernel
theorem dL_act_254 : decode cL_act 254 = .ok (.ireturn, 1) := by decide +kernel
theorem dL_act_255 : decode cL_act 255 = .ok (.aload_n 0, 1) := by decide +kernel
theorem dL_act_256 : decode cL_act 256 = .ok (.invokevirtual 57, 3) := by decide +kernel
theorem dL_act_259 : decode cL_act 259 = .ok (.pop, 1) := by decide +kernel
theorem dL_act_260 : decode cL_act 260 = .ok (.iconst 0, 1) := by decide +kernel
theorem dL_act_261 : decode cL_act 261 = .ok (.istore 5, 2) := by decide +kernel
theorem dL_act_263 : decode cL_act 263 = .ok (.iload 5, 2) := by decide +kernel
theorem dL_act_265 : decode cL_act 265 = .ok (.aload_n 0, 1) := by decide +kernel
theorem dL_act_266 : decode cL_act 266 = .ok (.iconst 0, 1) := by decide +kernel
theorem dL_act_267 : decode cL_act 267 = .ok (.invokevirtual 12, 3) := by decide +kernel
theorem dL_act_270 : decode cL_act 270 = .ok (.if_icmp .ge 64, 3) := by decide +kernel
theorem dL_act_273 : decode cL_act 273 = .ok (.iload 5, 2) := by decide +kernel
theorem dL_act_275 : decode cL_act 275 = .ok (.ifCond .le 10, 3) := by decide +kernel
theorem dL_act_278 : decode cL_act 278 = .ok (.aload_n 0, 1) := by decide +kernel
theorem dL_act_279 : decode cL_act 279 = .ok (.bipush 44, 2) := by decide +kernel
theorem dL_act_281 : decode cL_act 281 = .ok (.invokevirtual 61, 3) := by decide +kernel
theorem dL_act_284 : decode cL_act 284 = .ok (.pop, 1) := by decide +kernel
theorem dL_act_285 : decode cL_act 285 = .ok (.aload_n 0, 1) := by decide +kernel
theorem dL_act_286 : decode cL_act 286 = .ok (.bipush 49, 2) := by decide +kernel
theorem dL_act_288 : decode cL_act 288 = .ok (.iload_n 2, 1) := by decide +kernel
theorem dL_act_289 : decode cL_act 289 = .ok (.iconst 2, 1) := by decide +kernel
theorem dL_act_290 : decode cL_act 290 = .ok (.iload 5, 2) := by decide +kernel
theorem dL_act_292 : decode cL_act 292 = .ok (.imul, 1) := by decide +kernel
theorem dL_act_293 : decode cL_act 293 = .ok (.ishr, 1) := by decide +kernel
theorem dL_act_294 : decode cL_act 294 = .ok (.bipush 9, 2) := by decide +kernel
theorem dL_act_296 : decode cL_act 296 = .ok (.invokestatic 28, 3) := by decide +kernel
theorem dL_act_299 : decode cL_act 299 = .ok (.iadd, 1) := by decide +kernel
theorem dL_act_300 : decode cL_act 300 = .ok (.invokevirtual 61, 3) := by decide +kernel
theorem dL_act_303 : decode cL_act 303 = .ok (.pop, 1) := by decide +kernel
theorem dL_act_304 : decode cL_act 304 = .ok (.aload_n 0, 1) := by decide +kernel
theorem dL_act_305 : decode cL_act 305 = .ok (.bipush 48, 2) := by decide +kernel
theorem dL_act_307 : decode cL_act 307 = .ok (.iload_n 2, 1) := by decide +kernel
theorem dL_act_308 : decode cL_act 308 = .ok (.iload 5, 2) := by decide +kernel
theorem dL_act_310 : decode cL_act 310 = .ok (.ishr, 1) := by decide +kernel
theorem dL_act_311 : decode cL_act 311 = .ok (.bipush 10, 2) := by decide +kernel
theorem dL_act_313 : decode cL_act 313 = .ok (.invokestatic 28, 3) := by decide +kernel
theorem dL_act_316 : decode cL_act 316 = .ok (.iadd, 1) := by decide +kernel
theorem dL_act_317 : decode cL_act 317 = .ok (.invokevirtual 61, 3) := by decide +kernel
theorem dL_act_320 : decode cL_act 320 = .ok (.pop, 1) := by decide +kernel
theorem dL_act_321 : decode cL_act 321 = .ok (.aload_n 0, 1) := by decide +kernel
theorem dL_act_322 : decode cL_act 322 = .ok (.bipush 48, 2) := by decide +kernel
theorem dL_act_324 : decode cL_act 324 = .ok (.invokevirtual 61, 3) := by decide +kernel
theorem dL_act_327 : decode cL_act 327 = .ok (.pop, 1) := by decide +kernel
theorem dL_act_328 : decode cL_act 328 = .ok (.iinc 5 1, 3) := by decide +kernel
theorem dL_act_331 : decode cL_act 331 = .ok (.goto (-68), 3) := by decide +kernel
theorem dL_act_334 : decode cL_act 334 = .ok (.aload_n 0, 1) := by decide +kernel
theorem dL_act_335 : decode cL_act 335 = .ok (.invokevirtual 64, 3) := by decide +kernel
theorem dL_act_338 : decode cL_act 338 = .ok (.ireturn, 1) := by decide +kernel
theorem dL_act_339 : decode cL_act 339 = .ok (.aload_n 0, 1) := by decide +kernel
theorem dL_act_340 : decode cL_act 340 = .ok (.invokevirtual 67, 3) := by decide +kernel
theorem dL_act_343 : decode cL_act 343 = .ok (.ireturn, 1) := by decide +kernel
theorem dL_holds_0 : decode cL_holds 0 = .ok (.aload_n 0, 1) := by decide +kernel
theorem dL_holds_1 : decode cL_holds 1 = .ok (.iconst 0, 1) := by decide +kernel
theorem dL_holds_2 : decode cL_holds 2 = .ok (.invokevirtual 12, 3) := by decide +kernel
theorem dL_holds_5 : decode cL_holds 5 = .ok (.istore_n 1, 1) := by decide +kernel
theorem dL_holds_6 : decode cL_holds 6 = .ok (.aload_n 0, 1) := by decide +kernel
theorem dL_holds_7 : decode cL_holds 7 = .ok (.iconst 0, 1) := by decide +kernel
theorem dL_holds_8 : decode cL_holds 8 = .ok (.invokevirtual 70, 3) := by decide +kernel
theorem dL_holds_11 : decode cL_holds 11 = .ok (.istore_n 2, 1) := by decide +kernel
theorem dL_holds_12 : decode cL_holds 12 = .ok (.aload_n 0, 1) := by decide +kernel
theorem dL_holds_13 : decode cL_holds 13 = .ok (.bipush 10, 2) := by decide +kernel
theorem dL_holds_15 : decode cL_holds 15 = .ok (.invokevirtual 12, 3) := by decide +kernel
theorem dL_holds_18 : decode cL_holds 18 = .ok (.aload_n 0, 1) := by decide +kernel
theorem dL_holds_19 : decode cL_holds 19 = .ok (.bipush 11, 2) := by decide +kernel
theorem dL_holds_21 : decode cL_holds 21 = .ok (.invokevirtual 12, 3) := by decide +kernel
theorem dL_holds_24 : decode cL_holds 24 = .ok (.iadd, 1) := by decide +kernel
theorem dL_holds_25 : decode cL_holds 25 = .ok (.istore_n 3, 1) := by decide +kernel
theorem dL_holds_26 : decode cL_holds 26 = .ok (.ldc 73, 2) := by decide +kernel
theorem dL_holds_28 : decode cL_holds 28 = .ok (.istore 4, 2) := by decide +kernel
theorem dL_holds_30 : decode cL_holds 30 = .ok (.iconst (-1), 1) := by decide +kernel
theorem dL_holds_31 : decode cL_holds 31 = .ok (.istore 5, 2) := by decide +kernel
theorem dL_holds_33 : decode cL_holds 33 = .ok (.iconst 0, 1) := by decide +kernel
theorem dL_holds_34 : decode cL_holds 34 = .ok (.istore 6, 2) := by decide +kernel
theorem dL_holds_36 : decode cL_holds 36 = .ok (.iconst 0, 1) := by decide +kernel
theorem dL_holds_37 : decode cL_holds 37 = .ok (.istore 7, 2) := by decide +kernel
theorem dL_holds_39 : decode cL_holds 39 = .ok (.iconst 0, 1) := by decide +kernel
theorem dL_holds_40 : decode cL_holds 40 = .ok (.istore 8, 2) := by decide +kernel
theorem dL_holds_42 : decode cL_holds 42 = .ok (.iload 8, 2) := by decide +kernel
theorem dL_holds_44 : decode cL_holds 44 = .ok (.iload_n 1, 1) := by decide +kernel
theorem dL_holds_45 : decode cL_holds 45 = .ok (.if_icmp .ge 234, 3) := by decide +kernel
theorem dL_holds_48 : decode cL_holds 48 = .ok (.aload_n 0, 1) := by decide +kernel
theorem dL_holds_49 : decode cL_holds 49 = .ok (.iload 8, 2) := by decide +kernel
theorem dL_holds_51 : decode cL_holds 51 = .ok (.bipush 8, 2) := by decide +kernel
theorem dL_holds_53 : decode cL_holds 53 = .ok (.invokevirtual 21, 3) := by decide +kernel
theorem dL_holds_56 : decode cL_holds 56 = .ok (.istore 9, 2) := by decide +kernel
theorem dL_holds_58 : decode cL_holds 58 = .ok (.aload_n 0, 1) := by decide +kernel
theorem dL_holds_59 : decode cL_holds 59 = .ok (.iload 8, 2) := by decide +kernel
theorem dL_holds_61 : decode cL_holds 61 = .ok (.bipush 9, 2) := by decide +kernel
theorem dL_holds_63 : decode cL_holds 63 = .ok (.invokevirtual 21, 3) := by decide +kernel
theorem dL_holds_66 : decode cL_holds 66 = .ok (.istore 10, 2) := by decide +kernel
theorem dL_holds_68 : decode cL_holds 68 = .ok (.aload_n 0, 1) := by decide +kernel
theorem dL_holds_69 : decode cL_holds 69 = .ok (.iload 8, 2) := by decide +kernel
theorem dL_holds_71 : decode cL_holds 71 = .ok (.iconst 0, 1) := by decide +kernel
theorem dL_holds_72 : decode cL_holds 72 = .ok (.invokevirtual 21, 3) := by decide +kernel
theorem dL_holds_75 : decode cL_holds 75 = .ok (.istore 11, 2) := by decide +kernel
theorem dL_holds_77 : decode cL_holds 77 = .ok (.iload_n 3, 1) := by decide +kernel
theorem dL_holds_78 : decode cL_holds 78 = .ok (.aload_n 0, 1) := by decide +kernel
theorem dL_holds_79 : decode cL_holds 79 = .ok (.iload 8, 2) := by decide +kernel
theorem dL_holds_81 : decode cL_holds 81 = .ok (.bipush 11, 2) := by decide +kernel
theorem dL_holds_83 : decode cL_holds 83 = .ok (.invokevirtual 21, 3) := by decide +kernel
theorem dL_holds_86 : decode cL_holds 86 = .ok (.iadd, 1) := by decide +kernel
theorem dL_holds_87 : decode cL_holds 87 = .ok (.istore_n 3, 1) := by decide +kernel
theorem dL_holds_88 : decode cL_holds 88 = .ok (.iload 6, 2) := by decide +kernel
theorem dL_holds_90 : decode cL_holds 90 = .ok (.aload_n 0, 1) := by decide +kernel
theorem dL_holds_91 : decode cL_holds 91 = .ok (.iload 8, 2) := by decide +kernel
theorem dL_holds_93 : decode cL_holds 93 = .ok (.bipush 10, 2) := by decide +kernel
theorem dL_holds_95 : decode cL_holds 95 = .ok (.invokevirtual 21, 3) := by decide +kernel
theorem dL_holds_98 : decode cL_holds 98 = .ok (.iadd, 1) := by decide +kernel
theorem dL_holds_99 : decode cL_holds 99 = .ok (.istore 6, 2) := by decide +kernel
theorem dL_holds_101 : decode cL_holds 101 = .ok (.iload 9, 2) := by decide +kernel
theorem dL_holds_103 : decode cL_holds 103 = .ok (.ifCond .ne 15, 3) := by decide +kernel
theorem dL_holds_106 : decode cL_holds 106 = .ok (.iload 10, 2) := by decide +kernel
theorem dL_holds_108 : decode cL_holds 108 = .ok (.iload 4, 2) := by decide +kernel
theorem dL_holds_110 : decode cL_holds 110 = .ok (.if_icmp .ge 8, 3) := by decide +kernel
theorem dL_holds_113 : decode cL_holds 113 = .ok (.iload 10, 2) := by decide +kernel
theorem dL_holds_115 : decode cL_holds 115 = .ok (.goto 5, 3) := by decide +kernel
theorem dL_holds_118 : decode cL_holds 118 = .ok (.iload 4, 2) := by decide +kernel
theorem dL_holds_120 : decode cL_holds 120 = .ok (.istore 4, 2) := by decide +kernel
theorem dL_holds_122 : decode cL_holds 122 = .ok (.iload 9, 2) := by decide +kernel
theorem dL_holds_124 : decode cL_holds 124 = .ok (.ifCond .ne 15, 3) := by decide +kernel
theorem dL_holds_127 : decode cL_holds 127 = .ok (.iload 10, 2) := by decide +kernel
theorem dL_holds_129 : decode cL_holds 129 = .ok (.iload 5, 2) := by decide +kernel
theorem dL_holds_131 : decode cL_holds 131 = .ok (.if_icmp .le 8, 3) := by decide +kernel
theorem dL_holds_134 : decode cL_holds 134 = .ok (.iload 10, 2) := by decide +kernel
theorem dL_holds_136 : decode cL_holds 136 = .ok (.goto 5, 3) := by decide +kernel
theorem dL_holds_139 : decode cL_holds 139 = .ok (.iload 5, 2) := by decide +kernel
theorem dL_holds_141 : decode cL_holds 141 = .ok (.istore 5, 2) := by decide +kernel
theorem dL_holds_143 : decode cL_holds 143 = .ok (.iload 11, 2) := by decide +kernel
theorem dL_holds_145 : decode cL_holds 145 = .ok (.iload 7, 2) := by decide +kernel
theorem dL_holds_147 : decode cL_holds 147 = .ok (.if_icmp .lt 120, 3) := by decide +kernel
theorem dL_holds_150 : decode cL_holds 150 = .ok (.iload 11, 2) := by decide +kernel
theorem dL_holds_152 : decode cL_holds 152 = .ok (.aload_n 0, 1) := by decide +kernel
theorem dL_holds_153 : decode cL_holds 153 = .ok (.iconst 1, 1) := by decide +kernel
theorem dL_holds_154 : decode cL_holds 154 = .ok (.invokevirtual 12, 3) := by decide +kernel
theorem dL_holds_157 : decode cL_holds 157 = .ok (.if_icmp .ge 110, 3) := by decide +kernel
theorem dL_holds_160 : decode cL_holds 160 = .ok (.aload_n 0, 1) := by decide +kernel
theorem dL_holds_161 : decode cL_holds 161 = .ok (.iload 8, 2) := by decide +kernel
theorem dL_holds_163 : decode cL_holds 163 = .ok (.iconst 4, 1) := by decide +kernel
theorem dL_holds_164 : decode cL_holds 164 = .ok (.invokevirtual 21, 3) := by decide +kernel
theorem dL_holds_167 : decode cL_holds 167 = .ok (.ifCond .lt 100, 3) := by decide +kernel
theorem dL_holds_170 : decode cL_holds 170 = .ok (.aload_n 0, 1) := by decide +kernel
theorem dL_holds_171 : decode cL_holds 171 = .ok (.iload 8, 2) := by decide +kernel
theorem dL_holds_173 : decode cL_holds 173 = .ok (.iconst 4, 1) := by decide +kernel
theorem dL_holds_174 : decode cL_holds 174 = .ok (.invokevirtual 21, 3) := by decide +kernel
theorem dL_holds_177 : decode cL_holds 177 = .ok (.aload_n 0, 1) := by decide +kernel
theorem dL_holds_178 : decode cL_holds 178 = .ok (.iconst 0, 1) := by decide +kernel
theorem dL_holds_179 : decode cL_holds 179 = .ok (.invokevirtual 18, 3) := by decide +kernel
theorem dL_holds_182 : decode cL_holds 182 = .ok (.aload_n 0, 1) := by decide +kernel
theorem dL_holds_183 : decode cL_holds 183 = .ok (.iconst 2, 1) := by decide +kernel
theorem dL_holds_184 : decode cL_holds 184 = .ok (.invokevirtual 18, 3) := by decide +kernel
theorem dL_holds_187 : decode cL_holds 187 = .ok (.iadd, 1) := by decide +kernel
theorem dL_holds_188 : decode cL_holds 188 = .ok (.if_icmp .gt 79, 3) := by decide +kernel
theorem dL_holds_191 : decode cL_holds 191 = .ok (.aload_n 0, 1) := by decide +kernel
theorem dL_holds_192 : decode cL_holds 192 = .ok (.iload 8, 2) := by decide +kernel
theorem dL_holds_194 : decode cL_holds 194 = .ok (.bipush 6, 2) := by decide +kernel
theorem dL_holds_196 : decode cL_holds 196 = .ok (.invokevirtual 21, 3) := by decide +kernel
theorem dL_holds_199 : decode cL_holds 199 = .ok (.aload_n 0, 1) := by decide +kernel
theorem dL_holds_200 : decode cL_holds 200 = .ok (.iload 8, 2) := by decide +kernel
theorem dL_holds_202 : decode cL_holds 202 = .ok (.iconst 5, 1) := by decide +kernel
theorem dL_holds_203 : decode cL_holds 203 = .ok (.invokevirtual 21, 3) := by decide +kernel
theorem dL_holds_206 : decode cL_holds 206 = .ok (.if_icmp .gt 61, 3) := by decide +kernel
theorem dL_holds_209 : decode cL_holds 209 = .ok (.iload 9, 2) := by decide +kernel
theorem dL_holds_211 : decode cL_holds 211 = .ok (.iconst 1, 1) := by decide +kernel
theorem dL_holds_212 : decode cL_holds 212 = .ok (.if_icmp .ne 7, 3) := by decide +kernel
theorem dL_holds_215 : decode cL_holds 215 = .ok (.iconst 1, 1) := by decide +kernel
theorem dL_holds_216 : decode cL_holds 216 = .ok (.goto 4, 3) := by decide +kernel
theorem dL_holds_219 : decode cL_holds 219 = .ok (.iconst 0, 1) := by decide +kernel
theorem dL_holds_220 : decode cL_holds 220 = .ok (.aload_n 0, 1) := by decide +kernel
theorem dL_holds_221 : decode cL_holds 221 = .ok (.iconst 3, 1) := by decide +kernel
theorem dL_holds_222 : decode cL_holds 222 = .ok (.invokevirtual 12, 3) := by decide +kernel
theorem dL_holds_225 : decode cL_holds 225 = .ok (.ifCond .ne 7, 3) := by decide +kernel
theorem dL_holds_228 : decode cL_holds 228 = .ok (.iconst 1, 1) := by decide +kernel
theorem dL_holds_229 : decode cL_holds 229 = .ok (.goto 4, 3) := by decide +kernel
theorem dL_holds_232 : decode cL_holds 232 = .ok (.iconst 0, 1) := by decide +kernel
theorem dL_holds_233 : decode cL_holds 233 = .ok (.if_icmp .ne 34, 3) := by decide +kernel
theorem dL_holds_236 : decode cL_holds 236 = .ok (.aload_n 0, 1) := by decide +kernel
theorem dL_holds_237 : decode cL_holds 237 = .ok (.iload 8, 2) := by decide +kernel
theorem dL_holds_239 : decode cL_holds 239 = .ok (.bipush 7, 2) := by decide +kernel
theorem dL_holds_241 : decode cL_holds 241 = .ok (.invokevirtual 21, 3) := by decide +kernel
theorem dL_holds_244 : decode cL_holds 244 = .ok (.iconst (-1), 1) := by decide +kernel
theorem dL_holds_245 : decode cL_holds 245 = .ok (.if_icmp .ne 7, 3) := by decide +kernel
theorem dL_holds_248 : decode cL_holds 248 = .ok (.iconst 1, 1) := by decide +kernel
theorem dL_holds_249 : decode cL_holds 249 = .ok (.goto 4, 3) := by decide +kernel
theorem dL_holds_252 : decode cL_holds 252 = .ok (.iconst 0, 1) := by decide +kernel
theorem dL_holds_253 : decode cL_holds 253 = .ok (.iload 9, 2) := by decide +kernel
theorem dL_holds_255 : decode cL_holds 255 = .ok (.iconst 1, 1) := by decide +kernel
theorem dL_holds_256 : decode cL_holds 256 = .ok (.if_icmp .ne 7, 3) := by decide +kernel
theorem dL_holds_259 : decode cL_holds 259 = .ok (.iconst 1, 1) := by decide +kernel
theorem dL_holds_260 : decode cL_holds 260 = .ok (.goto 4, 3) := by decide +kernel
theorem dL_holds_263 : decode cL_holds 263 = .ok (.iconst 0, 1) := by decide +kernel
theorem dL_holds_264 : decode cL_holds 264 = .ok (.if_icmp .eq 5, 3) := by decide +kernel
theorem dL_holds_267 : decode cL_holds 267 = .ok (.iconst 0, 1) := by decide +kernel
theorem dL_holds_268 : decode cL_holds 268 = .ok (.ireturn, 1) := by decide +kernel
theorem dL_holds_269 : decode cL_holds 269 = .ok (.iload 11, 2) := by decide +kernel
theorem dL_holds_271 : decode cL_holds 271 = .ok (.istore 7, 2) := by decide +kernel
theorem dL_holds_273 : decode cL_holds 273 = .ok (.iinc 8 1, 3) := by decide +kernel
theorem dL_holds_276 : decode cL_holds 276 = .ok (.goto (-234), 3) := by decide +kernel
theorem dL_holds_279 : decode cL_holds 279 = .ok (.iconst 0, 1) := by decide +kernel
theorem dL_holds_280 : decode cL_holds 280 = .ok (.istore 8, 2) := by decide +kernel
theorem dL_holds_282 : decode cL_holds 282 = .ok (.iload 8, 2) := by decide +kernel
theorem dL_holds_284 : decode cL_holds 284 = .ok (.iload_n 1, 1) := by decide +kernel
theorem dL_holds_285 : decode cL_holds 285 = .ok (.if_icmp .ge 49, 3) := by decide +kernel
theorem dL_holds_288 : decode cL_holds 288 = .ok (.aload_n 0, 1) := by decide +kernel
theorem dL_holds_289 : decode cL_holds 289 = .ok (.iload 8, 2) := by decide +kernel
theorem dL_holds_291 : decode cL_holds 291 = .ok (.bipush 9, 2) := by decide +kernel
theorem dL_holds_293 : decode cL_holds 293 = .ok (.invokevirtual 21, 3) := by decide +kernel
theorem dL_holds_296 : decode cL_holds 296 = .ok (.istore 9, 2) := by decide +kernel
theorem dL_holds_298 : decode cL_holds 298 = .ok (.iload 5, 2) := by decide +kernel
theorem dL_holds_300 : decode cL_holds 300 = .ok (.ifCond .ge 12, 3) := by decide +kernel
theorem dL_holds_303 : decode cL_holds 303 = .ok (.iload 9, 2) := by decide +kernel
theorem dL_holds_305 : decode cL_holds 305 = .ok (.iconst (-1), 1) := by decide +kernel
theorem dL_holds_306 : decode cL_holds 306 = .ok (.if_icmp .eq 22, 3) := by decide +kernel
theorem dL_holds_309 : decode cL_holds 309 = .ok (.goto 17, 3) := by decide +kernel
theorem dL_holds_312 : decode cL_holds 312 = .ok (.iload 9, 2) := by decide +kernel
theorem dL_holds_314 : decode cL_holds 314 = .ok (.iload 4, 2) := by decide +kernel
theorem dL_holds_316 : decode cL_holds 316 = .ok (.if_icmp .lt 10, 3) := by decide +kernel
theorem dL_holds_319 : decode cL_holds 319 = .ok (.iload 9, 2) := by decide +kernel
theorem dL_holds_321 : decode cL_holds 321 = .ok (.iload 5, 2) := by decide +kernel
theorem dL_holds_323 : decode cL_holds 323 = .ok (.if_icmp .le 5, 3) := by decide +kernel
theorem dL_holds_326 : decode cL_holds 326 = .ok (.iconst 0, 1) := by decide +kernel
theorem dL_holds_327 : decode cL_holds 327 = .ok (.ireturn, 1) := by decide +kernel
theorem dL_holds_328 : decode cL_holds 328 = .ok (.iinc 8 1, 3) := by decide +kernel
theorem dL_holds_331 : decode cL_holds 331 = .ok (.goto (-49), 3) := by decide +kernel
theorem dL_holds_334 : decode cL_holds 334 = .ok (.iload 5, 2) := by decide +kernel
theorem dL_holds_336 : decode cL_holds 336 = .ok (.ifCond .ge 33, 3) := by decide +kernel
theorem dL_holds_339 : decode cL_holds 339 = .ok (.iload_n 2, 1) := by decide +kernel
theorem dL_holds_340 : decode cL_holds 340 = .ok (.iconst (-1), 1) := by decide +kernel
theorem dL_holds_341 : decode cL_holds 341 = .ok (.if_icmp .ne 24, 3) := by decide +kernel
theorem dL_holds_344 : decode cL_holds 344 = .ok (.aload_n 0, 1) := by decide +kernel
theorem dL_holds_345 : decode cL_holds 345 = .ok (.invokevirtual 74, 3) := by decide +kernel
theorem dL_holds_348 : decode cL_holds 348 = .ok (.iconst (-1), 1) := by decide +kernel
theorem dL_holds_349 : decode cL_holds 349 = .ok (.if_icmp .ne 16, 3) := by decide +kernel
theorem dL_holds_352 : decode cL_holds 352 = .ok (.aload_n 0, 1) := by decide +kernel
theorem dL_holds_353 : decode cL_holds 353 = .ok (.iconst 1, 1) := by decide +kernel
theorem dL_holds_354 : decode cL_holds 354 = .ok (.invokevirtual 70, 3) := by decide +kernel
theorem dL_holds_357 : decode cL_holds 357 = .ok (.iconst (-1), 1) := by decide +kernel
theorem dL_holds_358 : decode cL_holds 358 = .ok (.if_icmp .ne 7, 3) := by decide +kernel
theorem dL_holds_361 : decode cL_holds 361 = .ok (.iconst 1, 1) := by decide +kernel
theorem dL_holds_362 : decode cL_holds 362 = .ok (.goto 33, 3) := by decide +kernel
theorem dL_holds_365 : decode cL_holds 365 = .ok (.iconst 0, 1) := by decide +kernel
theorem dL_holds_366 : decode cL_holds 366 = .ok (.goto 29, 3) := by decide +kernel
theorem dL_holds_369 : decode cL_holds 369 = .ok (.iload_n 2, 1) := by decide +kernel
theorem dL_holds_370 : decode cL_holds 370 = .ok (.iload 6, 2) := by decide +kernel
theorem dL_holds_372 : decode cL_holds 372 = .ok (.if_icmp .ne 22, 3) := by decide +kernel
theorem dL_holds_375 : decode cL_holds 375 = .ok (.aload_n 0, 1) := by decide +kernel
theorem dL_holds_376 : decode cL_holds 376 = .ok (.iconst 1, 1) := by decide +kernel
theorem dL_holds_377 : decode cL_holds 377 = .ok (.invokevirtual 70, 3) := by decide +kernel
theorem dL_holds_380 : decode cL_holds 380 = .ok (.aload_n 0, 1) := by decide +kernel
theorem dL_holds_381 : decode cL_holds 381 = .ok (.iconst 2, 1) := by decide +kernel
theorem dL_holds_382 : decode cL_holds 382 = .ok (.invokevirtual 70, 3) := by decide +kernel
theorem dL_holds_385 : decode cL_holds 385 = .ok (.iadd, 1) := by decide +kernel
theorem dL_holds_386 : decode cL_holds 386 = .ok (.iload_n 2, 1) := by decide +kernel
theorem dL_holds_387 : decode cL_holds 387 = .ok (.if_icmp .ne 7, 3) := by decide +kernel
theorem dL_holds_390 : decode cL_holds 390 = .ok (.iconst 1, 1) := by decide +kernel
theorem dL_holds_391 : decode cL_holds 391 = .ok (.goto 4, 3) := by decide +kernel
theorem dL_holds_394 : decode cL_holds 394 = .ok (.iconst 0, 1) := by decide +kernel
theorem dL_holds_395 : decode cL_holds 395 = .ok (.istore 8, 2) := by decide +kernel
theorem dL_holds_397 : decode cL_holds 397 = .ok (.aload_n 0, 1) := by decide +kernel
theorem dL_holds_398 : decode cL_holds 398 = .ok (.invokevirtual 77, 3) := by decide +kernel
theorem dL_holds_401 : decode cL_holds 401 = .ok (.dstore 9, 2) := by decide +kernel
theorem dL_holds_403 : decode cL_holds 403 = .ok (.iload 8, 2) := by decide +kernel
theorem dL_holds_405 : decode cL_holds 405 = .ok (.ifCond .eq 122, 3) := by decide +kernel
theorem dL_holds_408 : decode cL_holds 408 = .ok (.iload_n 3, 1) := by decide +kernel
theorem dL_holds_409 : decode cL_holds 409 = .ok (.aload_n 0, 1) := by decide +kernel
theorem dL_holds_410 : decode cL_holds 410 = .ok (.bipush 9, 2) := by decide +kernel
theorem dL_holds_412 : decode cL_holds 412 = .ok (.invokevirtual 12, 3) := by decide +kernel
theorem dL_holds_415 : decode cL_holds 415 = .ok (.if_icmp .ne 112, 3) := by decide +kernel
theorem dL_holds_418 : decode cL_holds 418 = .ok (.aload_n 0, 1) := by decide +kernel
theorem dL_holds_419 : decode cL_holds 419 = .ok (.bipush 10, 2) := by decide +kernel
theorem dL_holds_421 : decode cL_holds 421 = .ok (.invokevirtual 12, 3) := by decide +kernel
theorem dL_holds_424 : decode cL_holds 424 = .ok (.iconst 5, 1) := by decide +kernel
theorem dL_holds_425 : decode cL_holds 425 = .ok (.aload_n 0, 1) := by decide +kernel
theorem dL_holds_426 : decode cL_holds 426 = .ok (.bipush 12, 2) := by decide +kernel
theorem dL_holds_428 : decode cL_holds 428 = .ok (.invokevirtual 12, 3) := by decide +kernel
theorem dL_holds_431 : decode cL_holds 431 = .ok (.imul, 1) := by decide +kernel
theorem dL_holds_432 : decode cL_holds 432 = .ok (.if_icmp .ne 95, 3) := by decide +kernel
theorem dL_holds_435 : decode cL_holds 435 = .ok (.aload_n 0, 1) := by decide +kernel
theorem dL_holds_436 : decode cL_holds 436 = .ok (.iconst 4, 1) := by decide +kernel
theorem dL_holds_437 : decode cL_holds 437 = .ok (.invokevirtual 12, 3) := by decide +kernel
theorem dL_holds_440 : decode cL_holds 440 = .ok (.aload_n 0, 1) := by decide +kernel
theorem dL_holds_441 : decode cL_holds 441 = .ok (.iconst 5, 1) := by decide +kernel
theorem dL_holds_442 : decode cL_holds 442 = .ok (.invokevirtual 12, 3) := by decide +kernel
theorem dL_holds_445 : decode cL_holds 445 = .ok (.iadd, 1) := by decide +kernel
theorem dL_holds_446 : decode cL_holds 446 = .ok (.aload_n 0, 1) := by decide +kernel
theorem dL_holds_447 : decode cL_holds 447 = .ok (.bipush 6, 2) := by decide +kernel
theorem dL_holds_449 : decode cL_holds 449 = .ok (.invokevirtual 12, 3) := by decide +kernel
theorem dL_holds_452 : decode cL_holds 452 = .ok (.iadd, 1) := by decide +kernel
theorem dL_holds_453 : decode cL_holds 453 = .ok (.aload_n 0, 1) := by decide +kernel
theorem dL_holds_454 : decode cL_holds 454 = .ok (.bipush 7, 2) := by decide +kernel
theorem dL_holds_456 : decode cL_holds 456 = .ok (.invokevirtual 12, 3) := by decide +kernel
theorem dL_holds_459 : decode cL_holds 459 = .ok (.iadd, 1) := by decide +kernel
theorem dL_holds_460 : decode cL_holds 460 = .ok (.aload_n 0, 1) := by decide +kernel
theorem dL_holds_461 : decode cL_holds 461 = .ok (.bipush 8, 2) := by decide +kernel
theorem dL_holds_463 : decode cL_holds 463 = .ok (.invokevirtual 12, 3) := by decide +kernel
theorem dL_holds_466 : decode cL_holds 466 = .ok (.iadd, 1) := by decide +kernel
theorem dL_holds_467 : decode cL_holds 467 = .ok (.iload_n 1, 1) := by decide +kernel
theorem dL_holds_468 : decode cL_holds 468 = .ok (.if_icmp .ne 59, 3) := by decide +kernel
theorem dL_holds_471 : decode cL_holds 471 = .ok (.aload_n 0, 1) := by decide +kernel
theorem dL_holds_472 : decode cL_holds 472 = .ok (.iconst 3, 1) := by decide +kernel
theorem dL_holds_473 : decode cL_holds 473 = .ok (.invokevirtual 70, 3) := by decide +kernel
theorem dL_holds_476 : decode cL_holds 476 = .ok (.aload_n 0, 1) := by decide +kernel
theorem dL_holds_477 : decode cL_holds 477 = .ok (.iload_n 1, 1) := by decide +kernel
theorem dL_holds_478 : decode cL_holds 478 = .ok (.invokevirtual 81, 3) := by decide +kernel
theorem dL_holds_481 : decode cL_holds 481 = .ok (.if_icmp .ne 46, 3) := by decide +kernel
theorem dL_holds_484 : decode cL_holds 484 = .ok (.dload 9, 2) := by decide +kernel
theorem dL_holds_486 : decode cL_holds 486 = .ok (.dconst 0, 1) := by decide +kernel
theorem dL_holds_487 : decode cL_holds 487 = .ok (.dcmp .l, 1) := by decide +kernel
theorem dL_holds_488 : decode cL_holds 488 = .ok (.ifCond .lt 39, 3) := by decide +kernel
theorem dL_holds_491 : decode cL_holds 491 = .ok (.dload 9, 2) := by decide +kernel
theorem dL_holds_493 : decode cL_holds 493 = .ok (.dconst 1, 1) := by decide +kernel
theorem dL_holds_494 : decode cL_holds 494 = .ok (.dcmp .g, 1) := by decide +kernel
theorem dL_holds_495 : decode cL_holds 495 = .ok (.ifCond .gt 32, 3) := by decide +kernel
theorem dL_holds_498 : decode cL_holds 498 = .ok (.aload_n 0, 1) := by decide +kernel
theorem dL_holds_499 : decode cL_holds 499 = .ok (.ldc 73, 2) := by decide +kernel
theorem dL_holds_501 : decode cL_holds 501 = .ok (.invokevirtual 84, 3) := by decide +kernel
theorem dL_holds_504 : decode cL_holds 504 = .ok (.iconst 2, 1) := by decide +kernel
theorem dL_holds_505 : decode cL_holds 505 = .ok (.if_icmp .lt 22, 3) := by decide +kernel
theorem dL_holds_508 : decode cL_holds 508 = .ok (.aload_n 0, 1) := by decide +kernel
theorem dL_holds_509 : decode cL_holds 509 = .ok (.iconst 0, 1) := by decide +kernel
theorem dL_holds_510 : decode cL_holds 510 = .ok (.invokevirtual 84, 3) := by decide +kernel
theorem dL_holds_513 : decode cL_holds 513 = .ok (.aload_n 0, 1) := by decide +kernel
theorem dL_holds_514 : decode cL_holds 514 = .ok (.sipush 500, 3) := by decide +kernel
theorem dL_holds_517 : decode cL_holds 517 = .ok (.invokevirtual 84, 3) := by decide +kernel
theorem dL_holds_520 : decode cL_holds 520 = .ok (.if_icmp .lt 7, 3) := by decide +kernel
theorem dL_holds_523 : decode cL_holds 523 = .ok (.iconst 1, 1) := by decide +kernel
theorem dL_holds_524 : decode cL_holds 524 = .ok (.goto 4, 3) := by decide +kernel
theorem dL_holds_527 : decode cL_holds 527 = .ok (.iconst 0, 1) := by decide +kernel
theorem dL_holds_528 : decode cL_holds 528 = .ok (.ireturn, 1) := by decide +kernel
theorem dL_law_0 : decode cL_law 0 = .ok (.new 13, 3) := by decide +kernel
theorem dL_law_3 : decode cL_law 3 = .ok (.dup, 1) := by decide +kernel
theorem dL_law_4 : decode cL_law 4 = .ok (.invokespecial 87, 3) := by decide +kernel
theorem dL_law_7 : decode cL_law 7 = .ok (.astore_n 1, 1) := by decide +kernel
theorem dL_law_8 : decode cL_law 8 = .ok (.aload_n 1, 1) := by decide +kernel
theorem dL_law_9 : decode cL_law 9 = .ok (.invokestatic 88, 3) := by decide +kernel
theorem dL_law_12 : decode cL_law 12 = .ok (.lstore_n 2, 1) := by decide +kernel
theorem dL_law_13 : decode cL_law 13 = .ok (.aload_n 1, 1) := by decide +kernel
theorem dL_law_14 : decode cL_law 14 = .ok (.iconst 0, 1) := by decide +kernel
theorem dL_law_15 : decode cL_law 15 = .ok (.invokevirtual 92, 3) := by decide +kernel
theorem dL_law_18 : decode cL_law 18 = .ok (.ifCond .eq 5, 3) := by decide +kernel
theorem dL_law_21 : decode cL_law 21 = .ok (.iconst 0, 1) := by decide +kernel
theorem dL_law_22 : decode cL_law 22 = .ok (.ireturn, 1) := by decide +kernel
theorem dL_law_23 : decode cL_law 23 = .ok (.iconst 0, 1) := by decide +kernel
theorem dL_law_24 : decode cL_law 24 = .ok (.istore 4, 2) := by decide +kernel
theorem dL_law_26 : decode cL_law 26 = .ok (.iload 4, 2) := by decide +kernel
theorem dL_law_28 : decode cL_law 28 = .ok (.bipush 34, 2) := by decide +kernel
theorem dL_law_30 : decode cL_law 30 = .ok (.if_icmp .ge 283, 3) := by decide +kernel
theorem dL_law_33 : decode cL_law 33 = .ok (.aload_n 0, 1) := by decide +kernel
theorem dL_law_34 : decode cL_law 34 = .ok (.iconst 2, 1) := by decide +kernel
theorem dL_law_35 : decode cL_law 35 = .ok (.iload 4, 2) := by decide +kernel
theorem dL_law_37 : decode cL_law 37 = .ok (.imul, 1) := by decide +kernel
theorem dL_law_38 : decode cL_law 38 = .ok (.invokestatic 95, 3) := by decide +kernel
theorem dL_law_41 : decode cL_law 41 = .ok (.istore 5, 2) := by decide +kernel
theorem dL_law_43 : decode cL_law 43 = .ok (.aload_n 0, 1) := by decide +kernel
theorem dL_law_44 : decode cL_law 44 = .ok (.iconst 2, 1) := by decide +kernel
theorem dL_law_45 : decode cL_law 45 = .ok (.iload 4, 2) := by decide +kernel
theorem dL_law_47 : decode cL_law 47 = .ok (.imul, 1) := by decide +kernel
theorem dL_law_48 : decode cL_law 48 = .ok (.iconst 1, 1) := by decide +kernel
theorem dL_law_49 : decode cL_law 49 = .ok (.iadd, 1) := by decide +kernel
theorem dL_law_50 : decode cL_law 50 = .ok (.invokestatic 95, 3) := by decide +kernel
theorem dL_law_53 : decode cL_law 53 = .ok (.istore 6, 2) := by decide +kernel
theorem dL_law_55 : decode cL_law 55 = .ok (.aload_n 1, 1) := by decide +kernel
theorem dL_law_56 : decode cL_law 56 = .ok (.bipush 13, 2) := by decide +kernel
theorem dL_law_58 : decode cL_law 58 = .ok (.invokevirtual 12, 3) := by decide +kernel
theorem dL_law_61 : decode cL_law 61 = .ok (.bipush 6, 2) := by decide +kernel
theorem dL_law_63 : decode cL_law 63 = .ok (.if_icmp .ne 13, 3) := by decide +kernel
theorem dL_law_66 : decode cL_law 66 = .ok (.aload_n 1, 1) := by decide +kernel
theorem dL_law_67 : decode cL_law 67 = .ok (.invokevirtual 99, 3) := by decide +kernel
theorem dL_law_70 : decode cL_law 70 = .ok (.pop, 1) := by decide +kernel
theorem dL_law_71 : decode cL_law 71 = .ok (.aload_n 1, 1) := by decide +kernel
theorem dL_law_72 : decode cL_law 72 = .ok (.invokevirtual 99, 3) := by decide +kernel
theorem dL_law_75 : decode cL_law 75 = .ok (.pop, 1) := by decide +kernel
theorem dL_law_76 : decode cL_law 76 = .ok (.aload_n 1, 1) := by decide +kernel
theorem dL_law_77 : decode cL_law 77 = .ok (.bipush 13, 2) := by decide +kernel
theorem dL_law_79 : decode cL_law 79 = .ok (.invokevirtual 12, 3) := by decide +kernel
theorem dL_law_82 : decode cL_law 82 = .ok (.istore 7, 2) := by decide +kernel
theorem dL_law_84 : decode cL_law 84 = .ok (.aload_n 1, 1) := by decide +kernel
theorem dL_law_85 : decode cL_law 85 = .ok (.invokestatic 88, 3) := by decide +kernel
theorem dL_law_88 : decode cL_law 88 = .ok (.lstore 8, 2) := by decide +kernel
theorem dL_law_90 : decode cL_law 90 = .ok (.aload_n 1, 1) := by decide +kernel
theorem dL_law_91 : decode cL_law 91 = .ok (.iload 5, 2) := by decide +kernel
theorem dL_law_93 : decode cL_law 93 = .ok (.iload 6, 2) := by decide +kernel
theorem dL_law_95 : decode cL_law 95 = .ok (.invokestatic 102, 3) := by decide +kernel
theorem dL_law_98 : decode cL_law 98 = .ok (.istore 10, 2) := by decide +kernel
theorem dL_law_100 : decode cL_law 100 = .ok (.aload_n 1, 1) := by decide +kernel
theorem dL_law_101 : decode cL_law 101 = .ok (.invokestatic 88, 3) := by decide +kernel
theorem dL_law_104 : decode cL_law 104 = .ok (.lstore 11, 2) := by decide +kernel
theorem dL_law_106 : decode cL_law 106 = .ok (.iload 10, 2) := by decide +kernel
theorem dL_law_108 : decode cL_law 108 = .ok (.bipush (-9), 2) := by decide +kernel
theorem dL_law_110 : decode cL_law 110 = .ok (.if_icmp .ne 25, 3) := by decide +kernel
theorem dL_law_113 : decode cL_law 113 = .ok (.lload 11, 2) := by decide +kernel
theorem dL_law_115 : decode cL_law 115 = .ok (.lload 8, 2) := by decide +kernel
theorem dL_law_117 : decode cL_law 117 = .ok (.lcmp, 1) := by decide +kernel
theorem dL_law_118 : decode cL_law 118 = .ok (.ifCond .ne 30, 3) := by decide +kernel
theorem dL_law_121 : decode cL_law 121 = .ok (.aload_n 1, 1) := by decide +kernel
theorem dL_law_122 : decode cL_law 122 = .ok (.bipush 13, 2) := by decide +kernel
theorem dL_law_124 : decode cL_law 124 = .ok (.invokevirtual 12, 3) := by decide +kernel
theorem dL_law_127 : decode cL_law 127 = .ok (.iload 7, 2) := by decide +kernel
theorem dL_law_129 : decode cL_law 129 = .ok (.if_icmp .eq 21, 3) := by decide +kernel
theorem dL_law_132 : decode cL_law 132 = .ok (.goto 16, 3) := by decide +kernel
theorem dL_law_135 : decode cL_law 135 = .ok (.aload_n 1, 1) := by decide +kernel
theorem dL_law_136 : decode cL_law 136 = .ok (.bipush 13, 2) := by decide +kernel
theorem dL_law_138 : decode cL_law 138 = .ok (.invokevirtual 12, 3) := by decide +kernel
theorem dL_law_141 : decode cL_law 141 = .ok (.iload 7, 2) := by decide +kernel
theorem dL_law_143 : decode cL_law 143 = .ok (.iconst 1, 1) := by decide +kernel
theorem dL_law_144 : decode cL_law 144 = .ok (.iadd, 1) := by decide +kernel
theorem dL_law_145 : decode cL_law 145 = .ok (.if_icmp .eq 5, 3) := by decide +kernel
theorem dL_law_148 : decode cL_law 148 = .ok (.iconst 0, 1) := by decide +kernel
theorem dL_law_149 : decode cL_law 149 = .ok (.ireturn, 1) := by decide +kernel
theorem dL_law_150 : decode cL_law 150 = .ok (.iload 10, 2) := by decide +kernel
theorem dL_law_152 : decode cL_law 152 = .ok (.bipush (-9), 2) := by decide +kernel
theorem dL_law_154 : decode cL_law 154 = .ok (.if_icmp .le 57, 3) := by decide +kernel
theorem dL_law_157 : decode cL_law 157 = .ok (.iload 5, 2) := by decide +kernel
theorem dL_law_159 : decode cL_law 159 = .ok (.bipush 8, 2) := by decide +kernel
theorem dL_law_161 : decode cL_law 161 = .ok (.ishr, 1) := by decide +kernel
theorem dL_law_162 : decode cL_law 162 = .ok (.iconst 1, 1) := by decide +kernel
theorem dL_law_163 : decode cL_law 163 = .ok (.iand, 1) := by decide +kernel
theorem dL_law_164 : decode cL_law 164 = .ok (.ifCond .ne 47, 3) := by decide +kernel
theorem dL_law_167 : decode cL_law 167 = .ok (.aload_n 1, 1) := by decide +kernel
theorem dL_law_168 : decode cL_law 168 = .ok (.invokevirtual 99, 3) := by decide +kernel
theorem dL_law_171 : decode cL_law 171 = .ok (.iload 7, 2) := by decide +kernel
theorem dL_law_173 : decode cL_law 173 = .ok (.if_icmp .ne 36, 3) := by decide +kernel
theorem dL_law_176 : decode cL_law 176 = .ok (.aload_n 1, 1) := by decide +kernel
theorem dL_law_177 : decode cL_law 177 = .ok (.invokestatic 88, 3) := by decide +kernel
theorem dL_law_180 : decode cL_law 180 = .ok (.lload 8, 2) := by decide +kernel
theorem dL_law_182 : decode cL_law 182 = .ok (.lcmp, 1) := by decide +kernel
theorem dL_law_183 : decode cL_law 183 = .ok (.ifCond .ne 26, 3) := by decide +kernel
theorem dL_law_186 : decode cL_law 186 = .ok (.aload_n 1, 1) := by decide +kernel
theorem dL_law_187 : decode cL_law 187 = .ok (.iload 5, 2) := by decide +kernel
theorem dL_law_189 : decode cL_law 189 = .ok (.iload 6, 2) := by decide +kernel
theorem dL_law_191 : decode cL_law 191 = .ok (.invokestatic 102, 3) := by decide +kernel
theorem dL_law_194 : decode cL_law 194 = .ok (.iload 10, 2) := by decide +kernel
theorem dL_law_196 : decode cL_law 196 = .ok (.if_icmp .ne 13, 3) := by decide +kernel
theorem dL_law_199 : decode cL_law 199 = .ok (.aload_n 1, 1) := by decide +kernel
theorem dL_law_200 : decode cL_law 200 = .ok (.invokestatic 88, 3) := by decide +kernel
theorem dL_law_203 : decode cL_law 203 = .ok (.lload 11, 2) := by decide +kernel
theorem dL_law_205 : decode cL_law 205 = .ok (.lcmp, 1) := by decide +kernel
theorem dL_law_206 : decode cL_law 206 = .ok (.ifCond .eq 5, 3) := by decide +kernel
theorem dL_law_209 : decode cL_law 209 = .ok (.iconst 0, 1) := by decide +kernel
theorem dL_law_210 : decode cL_law 210 = .ok (.ireturn, 1) := by decide +kernel
theorem dL_law_211 : decode cL_law 211 = .ok (.aload_n 1, 1) := by decide +kernel
theorem dL_law_212 : decode cL_law 212 = .ok (.invokestatic 106, 3) := by decide +kernel
theorem dL_law_215 : decode cL_law 215 = .ok (.ifCond .ne 5, 3) := by decide +kernel
theorem dL_law_218 : decode cL_law 218 = .ok (.iconst 0, 1) := by decide +kernel
theorem dL_law_219 : decode cL_law 219 = .ok (.ireturn, 1) := by decide +kernel
theorem dL_law_220 : decode cL_law 220 = .ok (.iload 5, 2) := by decide +kernel
theorem dL_law_222 : decode cL_law 222 = .ok (.bipush 9, 2) := by decide +kernel
theorem dL_law_224 : decode cL_law 224 = .ok (.ishr, 1) := by decide +kernel
theorem dL_law_225 : decode cL_law 225 = .ok (.bipush 7, 2) := by decide +kernel
theorem dL_law_227 : decode cL_law 227 = .ok (.iand, 1) := by decide +kernel
theorem dL_law_228 : decode cL_law 228 = .ok (.ifCond .ne 15, 3) := by decide +kernel
theorem dL_law_231 : decode cL_law 231 = .ok (.aload_n 1, 1) := by decide +kernel
theorem dL_law_232 : decode cL_law 232 = .ok (.iconst 0, 1) := by decide +kernel
theorem dL_law_233 : decode cL_law 233 = .ok (.invokevirtual 92, 3) := by decide +kernel
theorem dL_law_236 : decode cL_law 236 = .ok (.pop, 1) := by decide +kernel
theorem dL_law_237 : decode cL_law 237 = .ok (.lload 11, 2) := by decide +kernel
theorem dL_law_239 : decode cL_law 239 = .ok (.lstore_n 2, 1) := by decide +kernel
theorem dL_law_240 : decode cL_law 240 = .ok (.goto 67, 3) := by decide +kernel
theorem dL_law_243 : decode cL_law 243 = .ok (.iload 5, 2) := by decide +kernel
theorem dL_law_245 : decode cL_law 245 = .ok (.bipush 9, 2) := by decide +kernel
theorem dL_law_247 : decode cL_law 247 = .ok (.ishr, 1) := by decide +kernel
theorem dL_law_248 : decode cL_law 248 = .ok (.bipush 7, 2) := by decide +kernel
theorem dL_law_250 : decode cL_law 250 = .ok (.iand, 1) := by decide +kernel
theorem dL_law_251 : decode cL_law 251 = .ok (.iconst 1, 1) := by decide +kernel
theorem dL_law_252 : decode cL_law 252 = .ok (.if_icmp .ne 55, 3) := by decide +kernel
theorem dL_law_255 : decode cL_law 255 = .ok (.aload_n 1, 1) := by decide +kernel
theorem dL_law_256 : decode cL_law 256 = .ok (.bipush 13, 2) := by decide +kernel
theorem dL_law_258 : decode cL_law 258 = .ok (.invokevirtual 12, 3) := by decide +kernel
theorem dL_law_261 : decode cL_law 261 = .ok (.bipush 6, 2) := by decide +kernel
theorem dL_law_263 : decode cL_law 263 = .ok (.if_icmp .ge 44, 3) := by decide +kernel
theorem dL_law_266 : decode cL_law 266 = .ok (.aload_n 1, 1) := by decide +kernel
theorem dL_law_267 : decode cL_law 267 = .ok (.iconst 0, 1) := by decide +kernel
theorem dL_law_268 : decode cL_law 268 = .ok (.invokevirtual 110, 3) := by decide +kernel
theorem dL_law_271 : decode cL_law 271 = .ok (.aload_n 1, 1) := by decide +kernel
theorem dL_law_272 : decode cL_law 272 = .ok (.iconst 2, 1) := by decide +kernel
theorem dL_law_273 : decode cL_law 273 = .ok (.invokevirtual 12, 3) := by decide +kernel
theorem dL_law_276 : decode cL_law 276 = .ok (.if_icmp .ne 29, 3) := by decide +kernel
theorem dL_law_279 : decode cL_law 279 = .ok (.aload_n 1, 1) := by decide +kernel
theorem dL_law_280 : decode cL_law 280 = .ok (.invokestatic 88, 3) := by decide +kernel
theorem dL_law_283 : decode cL_law 283 = .ok (.lload_n 2, 1) := by decide +kernel
theorem dL_law_284 : decode cL_law 284 = .ok (.lcmp, 1) := by decide +kernel
theorem dL_law_285 : decode cL_law 285 = .ok (.ifCond .ne 20, 3) := by decide +kernel
theorem dL_law_288 : decode cL_law 288 = .ok (.aload_n 1, 1) := by decide +kernel
theorem dL_law_289 : decode cL_law 289 = .ok (.invokevirtual 99, 3) := by decide +kernel
theorem dL_law_292 : decode cL_law 292 = .ok (.ifCond .lt 13, 3) := by decide +kernel
theorem dL_law_295 : decode cL_law 295 = .ok (.aload_n 1, 1) := by decide +kernel
theorem dL_law_296 : decode cL_law 296 = .ok (.invokestatic 88, 3) := by decide +kernel
theorem dL_law_299 : decode cL_law 299 = .ok (.lload 11, 2) := by decide +kernel
theorem dL_law_301 : decode cL_law 301 = .ok (.lcmp, 1) := by decide +kernel
theorem dL_law_302 : decode cL_law 302 = .ok (.ifCond .eq 5, 3) := by decide +kernel
theorem dL_law_305 : decode cL_law 305 = .ok (.iconst 0, 1) := by decide +kernel
theorem dL_law_306 : decode cL_law 306 = .ok (.ireturn, 1) := by decide +kernel
theorem dL_law_307 : decode cL_law 307 = .ok (.iinc 4 1, 3) := by decide +kernel
theorem dL_law_310 : decode cL_law 310 = .ok (.goto (-284), 3) := by decide +kernel
theorem dL_law_313 : decode cL_law 313 = .ok (.iconst 1, 1) := by decide +kernel
theorem dL_law_314 : decode cL_law 314 = .ok (.ireturn, 1) := by decide +kernel
