theorem dX9_set_17 : decode cX9_set 17 = .ok (.iload_n 2, 1) := by decide +kernel
theorem dX9_set_18 : decode cX9_set 18 = .ok (.ifCond .lt 14, 3) := by decide +kernel
theorem dX9_set_21 : decode cX9_set 21 = .ok (.iload_n 2, 1) := by decide +kernel
theorem dX9_set_22 : decode cX9_set 22 = .ok (.getstatic 163, 3) := by decide +kernel
theorem dX9_set_25 : decode cX9_set 25 = .ok (.iload_n 1, 1) := by decide +kernel
theorem dX9_set_26 : decode cX9_set 26 = .ok (.invokestatic 95, 3) := by decide +kernel
theorem dX9_set_29 : decode cX9_set 29 = .ok (.if_icmp .le 13, 3) := by decide +kernel
theorem dX9_set_32 : decode cX9_set 32 = .ok (.new 58, 3) := by decide +kernel
theorem dX9_set_35 : decode cX9_set 35 = .ok (.dup, 1) := by decide +kernel
theorem dX9_set_36 : decode cX9_set 36 = .ok (.ldc 166, 2) := by decide +kernel
theorem dX9_set_38 : decode cX9_set 38 = .ok (.invokespecial 62, 3) := by decide +kernel
theorem dX9_set_41 : decode cX9_set 41 = .ok (.athrow, 1) := by decide +kernel
theorem dX9_set_42 : decode cX9_set 42 = .ok (.aload_n 0, 1) := by decide +kernel
theorem dX9_set_43 : decode cX9_set 43 = .ok (.getfield 19, 3) := by decide +kernel
theorem dX9_set_46 : decode cX9_set 46 = .ok (.aload_n 0, 1) := by decide +kernel
theorem dX9_set_47 : decode cX9_set 47 = .ok (.getfield 10, 3) := by decide +kernel
theorem dX9_set_50 : decode cX9_set 50 = .ok (.invokevirtual 65, 3) := by decide +kernel
theorem dX9_set_53 : decode cX9_set 53 = .ok (.aload_n 0, 1) := by decide +kernel
theorem dX9_set_54 : decode cX9_set 54 = .ok (.getfield 10, 3) := by decide +kernel
theorem dX9_set_57 : decode cX9_set 57 = .ok (.getfield 121, 3) := by decide +kernel
theorem dX9_set_60 : decode cX9_set 60 = .ok (.iload_n 1, 1) := by decide +kernel
theorem dX9_set_61 : decode cX9_set 61 = .ok (.invokestatic 95, 3) := by decide +kernel
theorem dX9_set_64 : decode cX9_set 64 = .ok (.istore_n 3, 1) := by decide +kernel
theorem dX9_set_65 : decode cX9_set 65 = .ok (.aload_n 0, 1) := by decide +kernel
theorem dX9_set_66 : decode cX9_set 66 = .ok (.getfield 10, 3) := by decide +kernel
theorem dX9_set_69 : decode cX9_set 69 = .ok (.getfield 121, 3) := by decide +kernel
theorem dX9_set_72 : decode cX9_set 72 = .ok (.iload_n 1, 1) := by decide +kernel
theorem dX9_set_73 : decode cX9_set 73 = .ok (.iload_n 2, 1) := by decide +kernel
theorem dX9_set_74 : decode cX9_set 74 = .ok (.invokestatic 101, 3) := by decide +kernel
theorem dX9_set_77 : decode cX9_set 77 = .ok (.iload_n 3, 1) := by decide +kernel
theorem dX9_set_78 : decode cX9_set 78 = .ok (.ireturn, 1) := by decide +kernel
theorem dX9_append_0 : decode cX9_append 0 = .ok (.iload_n 1, 1) := by decide +kernel
theorem dX9_append_1 : decode cX9_append 1 = .ok (.bipush 33, 2) := by decide +kernel
theorem dX9_append_3 : decode cX9_append 3 = .ok (.if_icmp .lt 9, 3) := by decide +kernel
theorem dX9_append_6 : decode cX9_append 6 = .ok (.iload_n 1, 1) := by decide +kernel
theorem dX9_append_7 : decode cX9_append 7 = .ok (.bipush 126, 2) := by decide +kernel
theorem dX9_append_9 : decode cX9_append 9 = .ok (.if_icmp .le 13, 3) := by decide +kernel
theorem dX9_append_12 : decode cX9_append 12 = .ok (.new 58, 3) := by decide +kernel
theorem dX9_append_15 : decode cX9_append 15 = .ok (.dup, 1) := by decide +kernel
theorem dX9_append_16 : decode cX9_append 16 = .ok (.ldc 168, 2) := by decide +kernel
theorem dX9_append_18 : decode cX9_append 18 = .ok (.invokespecial 62, 3) := by decide +kernel
theorem dX9_append_21 : decode cX9_append 21 = .ok (.athrow, 1) := by decide +kernel
theorem dX9_append_22 : decode cX9_append 22 = .ok (.aload_n 0, 1) := by decide +kernel
theorem dX9_append_23 : decode cX9_append 23 = .ok (.getfield 36, 3) := by decide +kernel
theorem dX9_append_26 : decode cX9_append 26 = .ok (.getfield 170, 3) := by decide +kernel
theorem dX9_append_29 : decode cX9_append 29 = .ok (.bipush 50, 2) := by decide +kernel
theorem dX9_append_31 : decode cX9_append 31 = .ok (.if_icmp .lt 13, 3) := by decide +kernel
theorem dX9_append_34 : decode cX9_append 34 = .ok (.new 173, 3) := by decide +kernel
theorem dX9_append_37 : decode cX9_append 37 = .ok (.dup, 1) := by decide +kernel
theorem dX9_append_38 : decode cX9_append 38 = .ok (.ldc 175, 2) := by decide +kernel
theorem dX9_append_40 : decode cX9_append 40 = .ok (.invokespecial 177, 3) := by decide +kernel
theorem dX9_append_43 : decode cX9_append 43 = .ok (.athrow, 1) := by decide +kernel
theorem dX9_append_44 : decode cX9_append 44 = .ok (.aload_n 0, 1) := by decide +kernel
theorem dX9_append_45 : decode cX9_append 45 = .ok (.getfield 36, 3) := by decide +kernel
theorem dX9_append_48 : decode cX9_append 48 = .ok (.iload_n 1, 1) := by decide +kernel
theorem dX9_append_49 : decode cX9_append 49 = .ok (.invokevirtual 178, 3) := by decide +kernel
theorem dX9_append_52 : decode cX9_append 52 = .ok (.aload_n 0, 1) := by decide +kernel
theorem dX9_append_53 : decode cX9_append 53 = .ok (.getfield 36, 3) := by decide +kernel
theorem dX9_append_56 : decode cX9_append 56 = .ok (.getfield 170, 3) := by decide +kernel
theorem dX9_append_59 : decode cX9_append 59 = .ok (.ireturn, 1) := by decide +kernel
theorem dX9_clearBuffer_0 : decode cX9_clearBuffer 0 = .ok (.aload_n 0, 1) := by decide +kernel
theorem dX9_clearBuffer_1 : decode cX9_clearBuffer 1 = .ok (.getfield 36, 3) := by decide +kernel
theorem dX9_clearBuffer_4 : decode cX9_clearBuffer 4 = .ok (.getfield 170, 3) := by decide +kernel
theorem dX9_clearBuffer_7 : decode cX9_clearBuffer 7 = .ok (.istore_n 1, 1) := by decide +kernel
theorem dX9_clearBuffer_8 : decode cX9_clearBuffer 8 = .ok (.aload_n 0, 1) := by decide +kernel
theorem dX9_clearBuffer_9 : decode cX9_clearBuffer 9 = .ok (.getfield 36, 3) := by decide +kernel
theorem dX9_clearBuffer_12 : decode cX9_clearBuffer 12 = .ok (.iconst 0, 1) := by decide +kernel
theorem dX9_clearBuffer_13 : decode cX9_clearBuffer 13 = .ok (.putfield 170, 3) := by decide +kernel
theorem dX9_clearBuffer_16 : decode cX9_clearBuffer 16 = .ok (.iload_n 1, 1) := by decide +kernel
theorem dX9_clearBuffer_17 : decode cX9_clearBuffer 17 = .ok (.ireturn, 1) := by decide +kernel
theorem dX9_firstError_0 : decode cX9_firstError 0 = .ok (.aload_n 0, 1) := by decide +kernel
theorem dX9_firstError_1 : decode cX9_firstError 1 = .ok (.getfield 36, 3) := by decide +kernel
theorem dX9_firstError_4 : decode cX9_firstError 4 = .ok (.invokevirtual 181, 3) := by decide +kernel
theorem dX9_firstError_7 : decode cX9_firstError 7 = .ok (.ireturn, 1) := by decide +kernel
theorem dX9_load_0 : decode cX9_load 0 = .ok (.aload_n 0, 1) := by decide +kernel
theorem dX9_load_1 : decode cX9_load 1 = .ok (.getfield 36, 3) := by decide +kernel
theorem dX9_load_4 : decode cX9_load 4 = .ok (.invokevirtual 185, 3) := by decide +kernel
theorem dX9_load_7 : decode cX9_load 7 = .ok (.ifCond .ne 13, 3) := by decide +kernel
theorem dX9_load_10 : decode cX9_load 10 = .ok (.new 58, 3) := by decide +kernel
theorem dX9_load_13 : decode cX9_load 13 = .ok (.dup, 1) := by decide +kernel
theorem dX9_load_14 : decode cX9_load 14 = .ok (.ldc 189, 2) := by decide +kernel
theorem dX9_load_16 : decode cX9_load 16 = .ok (.invokespecial 62, 3) := by decide +kernel
theorem dX9_load_19 : decode cX9_load 19 = .ok (.athrow, 1) := by decide +kernel
theorem dX9_load_20 : decode cX9_load 20 = .ok (.aload_n 0, 1) := by decide +kernel
theorem dX9_load_21 : decode cX9_load 21 = .ok (.getfield 19, 3) := by decide +kernel
theorem dX9_load_24 : decode cX9_load 24 = .ok (.aload_n 0, 1) := by decide +kernel
theorem dX9_load_25 : decode cX9_load 25 = .ok (.getfield 10, 3) := by decide +kernel
theorem dX9_load_28 : decode cX9_load 28 = .ok (.invokevirtual 65, 3) := by decide +kernel
theorem dX9_load_31 : decode cX9_load 31 = .ok (.aload_n 0, 1) := by decide +kernel
theorem dX9_load_32 : decode cX9_load 32 = .ok (.getfield 36, 3) := by decide +kernel
theorem dX9_load_35 : decode cX9_load 35 = .ok (.aload_n 0, 1) := by decide +kernel
theorem dX9_load_36 : decode cX9_load 36 = .ok (.getfield 50, 3) := by decide +kernel
theorem dX9_load_39 : decode cX9_load 39 = .ok (.invokevirtual 191, 3) := by decide +kernel
theorem dX9_load_42 : decode cX9_load 42 = .ok (.istore_n 1, 1) := by decide +kernel
theorem dX9_load_43 : decode cX9_load 43 = .ok (.aload_n 0, 1) := by decide +kernel
theorem dX9_load_44 : decode cX9_load 44 = .ok (.getfield 10, 3) := by decide +kernel
theorem dX9_load_47 : decode cX9_load 47 = .ok (.aload_n 0, 1) := by decide +kernel
theorem dX9_load_48 : decode cX9_load 48 = .ok (.getfield 50, 3) := by decide +kernel
theorem dX9_load_51 : decode cX9_load 51 = .ok (.iload_n 1, 1) := by decide +kernel
theorem dX9_load_52 : decode cX9_load 52 = .ok (.invokevirtual 137, 3) := by decide +kernel
theorem dX9_load_55 : decode cX9_load 55 = .ok (.aload_n 0, 1) := by decide +kernel
theorem dX9_load_56 : decode cX9_load 56 = .ok (.getfield 36, 3) := by decide +kernel
theorem dX9_load_59 : decode cX9_load 59 = .ok (.iconst 0, 1) := by decide +kernel
theorem dX9_load_60 : decode cX9_load 60 = .ok (.putfield 170, 3) := by decide +kernel
theorem dX9_load_63 : decode cX9_load 63 = .ok (.iload_n 1, 1) := by decide +kernel
theorem dX9_load_64 : decode cX9_load 64 = .ok (.ireturn, 1) := by decide +kernel
theorem dX9_keep_0 : decode cX9_keep 0 = .ok (.iload_n 1, 1) := by decide +kernel
theorem dX9_keep_1 : decode cX9_keep 1 = .ok (.invokestatic 195, 3) := by decide +kernel
theorem dX9_keep_4 : decode cX9_keep 4 = .ok (.ifCond .eq 13, 3) := by decide +kernel
theorem dX9_keep_7 : decode cX9_keep 7 = .ok (.new 58, 3) := by decide +kernel
theorem dX9_keep_10 : decode cX9_keep 10 = .ok (.dup, 1) := by decide +kernel
theorem dX9_keep_11 : decode cX9_keep 11 = .ok (.ldc 198, 2) := by decide +kernel
theorem dX9_keep_13 : decode cX9_keep 13 = .ok (.invokespecial 62, 3) := by decide +kernel
theorem dX9_keep_16 : decode cX9_keep 16 = .ok (.athrow, 1) := by decide +kernel
theorem dX9_keep_17 : decode cX9_keep 17 = .ok (.aload_n 0, 1) := by decide +kernel
theorem dX9_keep_18 : decode cX9_keep 18 = .ok (.iload_n 1, 1) := by decide +kernel
theorem dX9_keep_19 : decode cX9_keep 19 = .ok (.invokevirtual 200, 3) := by decide +kernel
theorem dX9_keep_22 : decode cX9_keep 22 = .ok (.astore_n 2, 1) := by decide +kernel
theorem dX9_keep_23 : decode cX9_keep 23 = .ok (.aload_n 2, 1) := by decide +kernel
theorem dX9_keep_24 : decode cX9_keep 24 = .ok (.getfield 204, 3) := by decide +kernel
theorem dX9_keep_27 : decode cX9_keep 27 = .ok (.aload_n 0, 1) := by decide +kernel
theorem dX9_keep_28 : decode cX9_keep 28 = .ok (.getfield 10, 3) := by decide +kernel
theorem dX9_keep_31 : decode cX9_keep 31 = .ok (.invokevirtual 207, 3) := by decide +kernel
theorem dX9_keep_34 : decode cX9_keep 34 = .ok (.aload_n 2, 1) := by decide +kernel
theorem dX9_keep_35 : decode cX9_keep 35 = .ok (.iconst 1, 1) := by decide +kernel
theorem dX9_keep_36 : decode cX9_keep 36 = .ok (.putfield 210, 3) := by decide +kernel
theorem dX9_keep_39 : decode cX9_keep 39 = .ok (.aload_n 0, 1) := by decide +kernel
theorem dX9_keep_40 : decode cX9_keep 40 = .ok (.getfield 10, 3) := by decide +kernel
theorem dX9_keep_43 : decode cX9_keep 43 = .ok (.getfield 141, 3) := by decide +kernel
theorem dX9_keep_46 : decode cX9_keep 46 = .ok (.getfield 145, 3) := by decide +kernel
theorem dX9_keep_49 : decode cX9_keep 49 = .ok (.ireturn, 1) := by decide +kernel
theorem dX9_goBack_0 : decode cX9_goBack 0 = .ok (.iload_n 1, 1) := by decide +kernel
theorem dX9_goBack_1 : decode cX9_goBack 1 = .ok (.invokestatic 195, 3) := by decide +kernel
theorem dX9_goBack_4 : decode cX9_goBack 4 = .ok (.ifCond .eq 13, 3) := by decide +kernel
theorem dX9_goBack_7 : decode cX9_goBack 7 = .ok (.new 58, 3) := by decide +kernel
theorem dX9_goBack_10 : decode cX9_goBack 10 = .ok (.dup, 1) := by decide +kernel
theorem dX9_goBack_11 : decode cX9_goBack 11 = .ok (.ldc 198, 2) := by decide +kernel
theorem dX9_goBack_13 : decode cX9_goBack 13 = .ok (.invokespecial 62, 3) := by decide +kernel
theorem dX9_goBack_16 : decode cX9_goBack 16 = .ok (.athrow, 1) := by decide +kernel
theorem dX9_goBack_17 : decode cX9_goBack 17 = .ok (.aload_n 0, 1) := by decide +kernel
theorem dX9_goBack_18 : decode cX9_goBack 18 = .ok (.iload_n 1, 1) := by decide +kernel
theorem dX9_goBack_19 : decode cX9_goBack 19 = .ok (.invokevirtual 200, 3) := by decide +kernel
theorem dX9_goBack_22 : decode cX9_goBack 22 = .ok (.astore_n 2, 1) := by decide +kernel
theorem dX9_goBack_23 : decode cX9_goBack 23 = .ok (.aload_n 2, 1) := by decide +kernel
theorem dX9_goBack_24 : decode cX9_goBack 24 = .ok (.getfield 210, 3) := by decide +kernel
theorem dX9_goBack_27 : decode cX9_goBack 27 = .ok (.ifCond .ne 13, 3) := by decide +kernel
theorem dX9_goBack_30 : decode cX9_goBack 30 = .ok (.new 173, 3) := by decide +kernel
theorem dX9_goBack_33 : decode cX9_goBack 33 = .ok (.dup, 1) := by decide +kernel
theorem dX9_goBack_34 : decode cX9_goBack 34 = .ok (.ldc 214, 2) := by decide +kernel
theorem dX9_goBack_36 : decode cX9_goBack 36 = .ok (.invokespecial 177, 3) := by decide +kernel
theorem dX9_goBack_39 : decode cX9_goBack 39 = .ok (.athrow, 1) := by decide +kernel
theorem dX9_goBack_40 : decode cX9_goBack 40 = .ok (.aload_n 0, 1) := by decide +kernel
theorem dX9_goBack_41 : decode cX9_goBack 41 = .ok (.getfield 19, 3) := by decide +kernel
theorem dX9_goBack_44 : decode cX9_goBack 44 = .ok (.aload_n 0, 1) := by decide +kernel
theorem dX9_goBack_45 : decode cX9_goBack 45 = .ok (.getfield 10, 3) := by decide +kernel
theorem dX9_goBack_48 : decode cX9_goBack 48 = .ok (.invokevirtual 65, 3) := by decide +kernel
theorem dX9_goBack_51 : decode cX9_goBack 51 = .ok (.aload_n 0, 1) := by decide +kernel
theorem dX9_goBack_52 : decode cX9_goBack 52 = .ok (.getfield 10, 3) := by decide +kernel
theorem dX9_goBack_55 : decode cX9_goBack 55 = .ok (.aload_n 2, 1) := by decide +kernel
theorem dX9_goBack_56 : decode cX9_goBack 56 = .ok (.getfield 204, 3) := by decide +kernel
theorem dX9_goBack_59 : decode cX9_goBack 59 = .ok (.invokevirtual 207, 3) := by decide +kernel
theorem dX9_goBack_62 : decode cX9_goBack 62 = .ok (.aload_n 0, 1) := by decide +kernel
theorem dX9_goBack_63 : decode cX9_goBack 63 = .ok (.getfield 10, 3) := by decide +kernel
theorem dX9_goBack_66 : decode cX9_goBack 66 = .ok (.getfield 141, 3) := by decide +kernel
theorem dX9_goBack_69 : decode cX9_goBack 69 = .ok (.getfield 145, 3) := by decide +kernel
theorem dX9_goBack_72 : decode cX9_goBack 72 = .ok (.ireturn, 1) := by decide +kernel
theorem dX9_undo_0 : decode cX9_undo 0 = .ok (.aload_n 0, 1) := by decide +kernel
theorem dX9_undo_1 : decode cX9_undo 1 = .ok (.getfield 19, 3) := by decide +kernel
theorem dX9_undo_4 : decode cX9_undo 4 = .ok (.getfield 216, 3) := by decide +kernel
theorem dX9_undo_7 : decode cX9_undo 7 = .ok (.ifCond .ne 13, 3) := by decide +kernel
theorem dX9_undo_10 : decode cX9_undo 10 = .ok (.new 173, 3) := by decide +kernel
theorem dX9_undo_13 : decode cX9_undo 13 = .ok (.dup, 1) := by decide +kernel
theorem dX9_undo_14 : decode cX9_undo 14 = .ok (.ldc 217, 2) := by decide +kernel
theorem dX9_undo_16 : decode cX9_undo 16 = .ok (.invokespecial 177, 3) := by decide +kernel
theorem dX9_undo_19 : decode cX9_undo 19 = .ok (.athrow, 1) := by decide +kernel
theorem dX9_undo_20 : decode cX9_undo 20 = .ok (.aload_n 0, 1) := by decide +kernel
theorem dX9_undo_21 : decode cX9_undo 21 = .ok (.getfield 19, 3) := by decide +kernel
theorem dX9_undo_24 : decode cX9_undo 24 = .ok (.aload_n 0, 1) := by decide +kernel
theorem dX9_undo_25 : decode cX9_undo 25 = .ok (.getfield 10, 3) := by decide +kernel
theorem dX9_undo_28 : decode cX9_undo 28 = .ok (.invokevirtual 219, 3) := by decide +kernel
theorem dX9_undo_31 : decode cX9_undo 31 = .ok (.aload_n 0, 1) := by decide +kernel
theorem dX9_undo_32 : decode cX9_undo 32 = .ok (.getfield 19, 3) := by decide +kernel
theorem dX9_undo_35 : decode cX9_undo 35 = .ok (.getfield 216, 3) := by decide +kernel
theorem dX9_undo_38 : decode cX9_undo 38 = .ok (.ireturn, 1) := by decide +kernel
theorem dX9_hole_0 : decode cX9_hole 0 = .ok (.aload_n 0, 1) := by decide +kernel
theorem dX9_hole_1 : decode cX9_hole 1 = .ok (.iload_n 1, 1) := by decide +kernel
theorem dX9_hole_2 : decode cX9_hole 2 = .ok (.invokevirtual 82, 3) := by decide +kernel
theorem dX9_hole_5 : decode cX9_hole 5 = .ok (.ifCond .eq 13, 3) := by decide +kernel
theorem dX9_hole_8 : decode cX9_hole 8 = .ok (.new 85, 3) := by decide +kernel
theorem dX9_hole_11 : decode cX9_hole 11 = .ok (.dup, 1) := by decide +kernel
theorem dX9_hole_12 : decode cX9_hole 12 = .ok (.ldc 87, 2) := by decide +kernel
theorem dX9_hole_14 : decode cX9_hole 14 = .ok (.invokespecial 89, 3) := by decide +kernel
theorem dX9_hole_17 : decode cX9_hole 17 = .ok (.athrow, 1) := by decide +kernel
theorem dX9_hole_18 : decode cX9_hole 18 = .ok (.iload_n 2, 1) := by decide +kernel
theorem dX9_hole_19 : decode cX9_hole 19 = .ok (.ifCond .lt 9, 3) := by decide +kernel
theorem dX9_hole_22 : decode cX9_hole 22 = .ok (.iload_n 2, 1) := by decide +kernel
theorem dX9_hole_23 : decode cX9_hole 23 = .ok (.bipush 11, 2) := by decide +kernel
theorem dX9_hole_25 : decode cX9_hole 25 = .ok (.if_icmp .le 13, 3) := by decide +kernel
theorem dX9_hole_28 : decode cX9_hole 28 = .ok (.new 58, 3) := by decide +kernel
theorem dX9_hole_31 : decode cX9_hole 31 = .ok (.dup, 1) := by decide +kernel
theorem dX9_hole_32 : decode cX9_hole 32 = .ok (.ldc 222, 2) := by decide +kernel
theorem dX9_hole_34 : decode cX9_hole 34 = .ok (.invokespecial 62, 3) := by decide +kernel
theorem dX9_hole_37 : decode cX9_hole 37 = .ok (.athrow, 1) := by decide +kernel
theorem dX9_hole_38 : decode cX9_hole 38 = .ok (.aload_n 0, 1) := by decide +kernel
theorem dX9_hole_39 : decode cX9_hole 39 = .ok (.getfield 43, 3) := by decide +kernel
theorem dX9_hole_42 : decode cX9_hole 42 = .ok (.aload_n 0, 1) := by decide +kernel
theorem dX9_hole_43 : decode cX9_hole 43 = .ok (.getfield 10, 3) := by decide +kernel
theorem dX9_hole_46 : decode cX9_hole 46 = .ok (.invokevirtual 224, 3) := by decide +kernel
theorem dX9_hole_49 : decode cX9_hole 49 = .ok (.aload_n 0, 1) := by decide +kernel
theorem dX9_hole_50 : decode cX9_hole 50 = .ok (.iload_n 1, 1) := by decide +kernel
theorem dX9_hole_51 : decode cX9_hole 51 = .ok (.iload_n 2, 1) := by decide +kernel
theorem dX9_hole_52 : decode cX9_hole 52 = .ok (.aload_n 0, 1) := by decide +kernel
theorem dX9_hole_53 : decode cX9_hole 53 = .ok (.getfield 43, 3) := by decide +kernel
theorem dX9_hole_56 : decode cX9_hole 56 = .ok (.invokevirtual 227, 3) := by decide +kernel
theorem dX9_hole_59 : decode cX9_hole 59 = .ok (.ireturn, 1) := by decide +kernel
theorem dX9_reading_0 : decode cX9_reading 0 = .ok (.aload_n 0, 1) := by decide +kernel
theorem dX9_reading_1 : decode cX9_reading 1 = .ok (.iload_n 1, 1) := by decide +kernel
theorem dX9_reading_2 : decode cX9_reading 2 = .ok (.invokevirtual 150, 3) := by decide +kernel
theorem dX9_reading_5 : decode cX9_reading 5 = .ok (.ifCond .eq 13, 3) := by decide +kernel
theorem dX9_reading_8 : decode cX9_reading 8 = .ok (.new 85, 3) := by decide +kernel
theorem dX9_reading_11 : decode cX9_reading 11 = .ok (.dup, 1) := by decide +kernel
theorem dX9_reading_12 : decode cX9_reading 12 = .ok (.ldc 153, 2) := by decide +kernel
theorem dX9_reading_14 : decode cX9_reading 14 = .ok (.invokespecial 89, 3) := by decide +kernel
theorem dX9_reading_17 : decode cX9_reading 17 = .ok (.athrow, 1) := by decide +kernel
theorem dX9_reading_18 : decode cX9_reading 18 = .ok (.iload_n 2, 1) := by decide +kernel
theorem dX9_reading_19 : decode cX9_reading 19 = .ok (.ifCond .lt 9, 3) := by decide +kernel
theorem dX9_reading_22 : decode cX9_reading 22 = .ok (.iload_n 2, 1) := by decide +kernel
theorem dX9_reading_23 : decode cX9_reading 23 = .ok (.bipush 10, 2) := by decide +kernel
theorem dX9_reading_25 : decode cX9_reading 25 = .ok (.if_icmp .le 13, 3) := by decide +kernel
theorem dX9_reading_28 : decode cX9_reading 28 = .ok (.new 58, 3) := by decide +kernel
theorem dX9_reading_31 : decode cX9_reading 31 = .ok (.dup, 1) := by decide +kernel
theorem dX9_reading_32 : decode cX9_reading 32 = .ok (.ldc 231, 2) := by decide +kernel
theorem dX9_reading_34 : decode cX9_reading 34 = .ok (.invokespecial 62, 3) := by decide +kernel
theorem dX9_reading_37 : decode cX9_reading 37 = .ok (.athrow, 1) := by decide +kernel
theorem dX9_reading_38 : decode cX9_reading 38 = .ok (.aload_n 0, 1) := by decide +kernel
theorem dX9_reading_39 : decode cX9_reading 39 = .ok (.iload_n 1, 1) := by decide +kernel
theorem dX9_reading_40 : decode cX9_reading 40 = .ok (.iload_n 2, 1) := by decide +kernel
theorem dX9_reading_41 : decode cX9_reading 41 = .ok (.invokevirtual 233, 3) := by decide +kernel
theorem dX9_reading_44 : decode cX9_reading 44 = .ok (.ireturn, 1) := by decide +kernel
theorem dX9_flow_0 : decode cX9_flow 0 = .ok (.iload_n 1, 1) := by decide +kernel
theorem dX9_flow_1 : decode cX9_flow 1 = .ok (.ifCond .lt 8, 3) := by decide +kernel
theorem dX9_flow_4 : decode cX9_flow 4 = .ok (.iload_n 1, 1) := by decide +kernel
theorem dX9_flow_5 : decode cX9_flow 5 = .ok (.iconst 3, 1) := by decide +kernel
theorem dX9_flow_6 : decode cX9_flow 6 = .ok (.if_icmp .le 13, 3) := by decide +kernel
theorem dX9_flow_9 : decode cX9_flow 9 = .ok (.new 58, 3) := by decide +kernel
theorem dX9_flow_12 : decode cX9_flow 12 = .ok (.dup, 1) := by decide +kernel
theorem dX9_flow_13 : decode cX9_flow 13 = .ok (.ldc 237, 2) := by decide +kernel
theorem dX9_flow_15 : decode cX9_flow 15 = .ok (.invokespecial 62, 3) := by decide +kernel
theorem dX9_flow_18 : decode cX9_flow 18 = .ok (.athrow, 1) := by decide +kernel
theorem dX9_flow_19 : decode cX9_flow 19 = .ok (.aload_n 0, 1) := by decide +kernel
theorem dX9_flow_20 : decode cX9_flow 20 = .ok (.getfield 43, 3) := by decide +kernel
theorem dX9_flow_23 : decode cX9_flow 23 = .ok (.aload_n 0, 1) := by decide +kernel
theorem dX9_flow_24 : decode cX9_flow 24 = .ok (.getfield 10, 3) := by decide +kernel
theorem dX9_flow_27 : decode cX9_flow 27 = .ok (.invokevirtual 224, 3) := by decide +kernel
theorem dX9_flow_30 : decode cX9_flow 30 = .ok (.aload_n 0, 1) := by decide +kernel
theorem dX9_flow_31 : decode cX9_flow 31 = .ok (.iload_n 1, 1) := by decide +kernel
theorem dX9_flow_32 : decode cX9_flow 32 = .ok (.aload_n 0, 1) := by decide +kernel
theorem dX9_flow_33 : decode cX9_flow 33 = .ok (.getfield 43, 3) := by decide +kernel
theorem dX9_flow_36 : decode cX9_flow 36 = .ok (.invokevirtual 239, 3) := by decide +kernel
theorem dX9_flow_39 : decode cX9_flow 39 = .ok (.ireturn, 1) := by decide +kernel
theorem dX9_count_0 : decode cX9_count 0 = .ok (.iload_n 1, 1) := by decide +kernel
theorem dX9_count_1 : decode cX9_count 1 = .ok (.ifCond .lt 9, 3) := by decide +kernel
theorem dX9_count_4 : decode cX9_count 4 = .ok (.iload_n 1, 1) := by decide +kernel
theorem dX9_count_5 : decode cX9_count 5 = .ok (.bipush 13, 2) := by decide +kernel
theorem dX9_count_7 : decode cX9_count 7 = .ok (.if_icmp .le 13, 3) := by decide +kernel
theorem dX9_count_10 : decode cX9_count 10 = .ok (.new 58, 3) := by decide +kernel
theorem dX9_count_13 : decode cX9_count 13 = .ok (.dup, 1) := by decide +kernel
theorem dX9_count_14 : decode cX9_count 14 = .ok (.ldc 243, 2) := by decide +kernel
theorem dX9_count_16 : decode cX9_count 16 = .ok (.invokespecial 62, 3) := by decide +kernel
theorem dX9_count_19 : decode cX9_count 19 = .ok (.athrow, 1) := by decide +kernel
theorem dX9_count_20 : decode cX9_count 20 = .ok (.aload_n 0, 1) := by decide +kernel
theorem dX9_count_21 : decode cX9_count 21 = .ok (.getfield 43, 3) := by decide +kernel
theorem dX9_count_24 : decode cX9_count 24 = .ok (.aload_n 0, 1) := by decide +kernel
theorem dX9_count_25 : decode cX9_count 25 = .ok (.getfield 10, 3) := by decide +kernel
theorem dX9_count_28 : decode cX9_count 28 = .ok (.invokevirtual 224, 3) := by decide +kernel
theorem dX9_count_31 : decode cX9_count 31 = .ok (.aload_n 0, 1) := by decide +kernel
theorem dX9_count_32 : decode cX9_count 32 = .ok (.iload_n 1, 1) := by decide +kernel
theorem dX9_count_33 : decode cX9_count 33 = .ok (.aload_n 0, 1) := by decide +kernel
theorem dX9_count_34 : decode cX9_count 34 = .ok (.getfield 43, 3) := by decide +kernel
theorem dX9_count_37 : decode cX9_count 37 = .ok (.invokevirtual 245, 3) := by decide +kernel
theorem dX9_count_40 : decode cX9_count 40 = .ok (.ireturn, 1) := by decide +kernel
theorem dX9_setting_0 : decode cX9_setting 0 = .ok (.iload_n 1, 1) := by decide +kernel
theorem dX9_setting_1 : decode cX9_setting 1 = .ok (.invokestatic 158, 3) := by decide +kernel
theorem dX9_setting_4 : decode cX9_setting 4 = .ok (.ifCond .eq 13, 3) := by decide +kernel
theorem dX9_setting_7 : decode cX9_setting 7 = .ok (.new 85, 3) := by decide +kernel
theorem dX9_setting_10 : decode cX9_setting 10 = .ok (.dup, 1) := by decide +kernel
theorem dX9_setting_11 : decode cX9_setting 11 = .ok (.ldc 161, 2) := by decide +kernel
theorem dX9_setting_13 : decode cX9_setting 13 = .ok (.invokespecial 89, 3) := by decide +kernel
theorem dX9_setting_16 : decode cX9_setting 16 = .ok (.athrow, 1) := by decide +kernel
theorem dX9_setting_17 : decode cX9_setting 17 = .ok (.aload_n 0, 1) := by decide +kernel
theorem dX9_setting_18 : decode cX9_setting 18 = .ok (.getfield 10, 3) := by decide +kernel
theorem dX9_setting_21 : decode cX9_setting 21 = .ok (.getfield 121, 3) := by decide +kernel
theorem dX9_setting_24 : decode cX9_setting 24 = .ok (.iload_n 1, 1) := by decide +kernel
theorem dX9_setting_25 : decode cX9_setting 25 = .ok (.invokestatic 95, 3) := by decide +kernel
theorem dX9_setting_28 : decode cX9_setting 28 = .ok (.ireturn, 1) := by decide +kernel
theorem dX9_ifRight_0 : decode cX9_ifRight 0 = .ok (.aload_n 0, 1) := by decide +kernel
theorem dX9_ifRight_1 : decode cX9_ifRight 1 = .ok (.iload_n 1, 1) := by decide +kernel
theorem dX9_ifRight_2 : decode cX9_ifRight 2 = .ok (.invokevirtual 82, 3) := by decide +kernel
theorem dX9_ifRight_5 : decode cX9_ifRight 5 = .ok (.ifCond .eq 13, 3) := by decide +kernel
theorem dX9_ifRight_8 : decode cX9_ifRight 8 = .ok (.new 85, 3) := by decide +kernel
theorem dX9_ifRight_11 : decode cX9_ifRight 11 = .ok (.dup, 1) := by decide +kernel
theorem dX9_ifRight_12 : decode cX9_ifRight 12 = .ok (.ldc 87, 2) := by decide +kernel
theorem dX9_ifRight_14 : decode cX9_ifRight 14 = .ok (.invokespecial 89, 3) := by decide +kernel
theorem dX9_ifRight_17 : decode cX9_ifRight 17 = .ok (.athrow, 1) := by decide +kernel
theorem dX9_ifRight_18 : decode cX9_ifRight 18 = .ok (.aload_n 0, 1) := by decide +kernel
theorem dX9_ifRight_19 : decode cX9_ifRight 19 = .ok (.iload_n 1, 1) := by decide +kernel
theorem dX9_ifRight_20 : decode cX9_ifRight 20 = .ok (.invokevirtual 248, 3) := by decide +kernel
theorem dX9_ifRight_23 : decode cX9_ifRight 23 = .ok (.ireturn, 1) := by decide +kernel
theorem dX9_worst_0 : decode cX9_worst 0 = .ok (.aload_n 0, 1) := by decide +kernel
theorem dX9_worst_1 : decode cX9_worst 1 = .ok (.getfield 43, 3) := by decide +kernel
theorem dX9_worst_4 : decode cX9_worst 4 = .ok (.aload_n 0, 1) := by decide +kernel
theorem dX9_worst_5 : decode cX9_worst 5 = .ok (.getfield 10, 3) := by decide +kernel
theorem dX9_worst_8 : decode cX9_worst 8 = .ok (.invokevirtual 224, 3) := by decide +kernel
theorem dX9_worst_11 : decode cX9_worst 11 = .ok (.aload_n 0, 1) := by decide +kernel
theorem dX9_worst_12 : decode cX9_worst 12 = .ok (.aload_n 0, 1) := by decide +kernel
theorem dX9_worst_13 : decode cX9_worst 13 = .ok (.getfield 43, 3) := by decide +kernel
theorem dX9_worst_16 : decode cX9_worst 16 = .ok (.invokevirtual 251, 3) := by decide +kernel
theorem dX9_worst_19 : decode cX9_worst 19 = .ok (.ireturn, 1) := by decide +kernel
theorem dX9_ifRake_0 : decode cX9_ifRake 0 = .ok (.iload_n 1, 1) := by decide +kernel
theorem dX9_ifRake_1 : decode cX9_ifRake 1 = .ok (.invokestatic 54, 3) := by decide +kernel
theorem dX9_ifRake_4 : decode cX9_ifRake 4 = .ok (.ifCond .eq 13, 3) := by decide +kernel
theorem dX9_ifRake_7 : decode cX9_ifRake 7 = .ok (.new 58, 3) := by decide +kernel
theorem dX9_ifRake_10 : decode cX9_ifRake 10 = .ok (.dup, 1) := by decide +kernel
theorem dX9_ifRake_11 : decode cX9_ifRake 11 = .ok (.ldc 60, 2) := by decide +kernel
theorem dX9_ifRake_13 : decode cX9_ifRake 13 = .ok (.invokespecial 62, 3) := by decide +kernel
theorem dX9_ifRake_16 : decode cX9_ifRake 16 = .ok (.athrow, 1) := by decide +kernel
theorem dX9_ifRake_17 : decode cX9_ifRake 17 = .ok (.aload_n 0, 1) := by decide +kernel
theorem dX9_ifRake_18 : decode cX9_ifRake 18 = .ok (.getfield 10, 3) := by decide +kernel
theorem dX9_ifRake_21 : decode cX9_ifRake 21 = .ok (.iload_n 1, 1) := by decide +kernel
theorem dX9_ifRake_22 : decode cX9_ifRake 22 = .ok (.invokestatic 255, 3) := by decide +kernel
theorem dX9_ifRake_25 : decode cX9_ifRake 25 = .ok (.ireturn, 1) := by decide +kernel
theorem dX9_fineRake_0 : decode cX9_fineRake 0 = .ok (.iload_n 1, 1) := by decide +kernel
theorem dX9_fineRake_1 : decode cX9_fineRake 1 = .ok (.ifCond .lt 10, 3) := by decide +kernel
theorem dX9_fineRake_4 : decode cX9_fineRake 4 = .ok (.iload_n 1, 1) := by decide +kernel
theorem dX9_fineRake_5 : decode cX9_fineRake 5 = .ok (.ldc_w 258, 3) := by decide +kernel
theorem dX9_fineRake_8 : decode cX9_fineRake 8 = .ok (.if_icmp .le 14, 3) := by decide +kernel
theorem dX9_fineRake_11 : decode cX9_fineRake 11 = .ok (.new 58, 3) := by decide +kernel
theorem dX9_fineRake_14 : decode cX9_fineRake 14 = .ok (.dup, 1) := by decide +kernel
theorem dX9_fineRake_15 : decode cX9_fineRake 15 = .ok (.ldc_w 259, 3) := by decide +kernel
theorem dX9_fineRake_18 : decode cX9_fineRake 18 = .ok (.invokespecial 62, 3) := by decide +kernel
theorem dX9_fineRake_21 : decode cX9_fineRake 21 = .ok (.athrow, 1) := by decide +kernel
theorem dX9_fineRake_22 : decode cX9_fineRake 22 = .ok (.aload_n 0, 1) := by decide +kernel
theorem dX9_fineRake_23 : decode cX9_fineRake 23 = .ok (.iload_n 1, 1) := by decide +kernel
theorem dX9_fineRake_24 : decode cX9_fineRake 24 = .ok (.invokevirtual 261, 3) := by decide +kernel
theorem dX9_fineRake_27 : decode cX9_fineRake 27 = .ok (.ireturn, 1) := by decide +kernel
theorem dX9_evenness_0 : decode cX9_evenness 0 = .ok (.aload_n 0, 1) := by decide +kernel
theorem dX9_evenness_1 : decode cX9_evenness 1 = .ok (.getfield 43, 3) := by decide +kernel
theorem dX9_evenness_4 : decode cX9_evenness 4 = .ok (.aload_n 0, 1) := by decide +kernel
theorem dX9_evenness_5 : decode cX9_evenness 5 = .ok (.getfield 10, 3) := by decide +kernel
theorem dX9_evenness_8 : decode cX9_evenness 8 = .ok (.invokevirtual 224, 3) := by decide +kernel
theorem dX9_evenness_11 : decode cX9_evenness 11 = .ok (.aload_n 0, 1) := by decide +kernel
theorem dX9_evenness_12 : decode cX9_evenness 12 = .ok (.getfield 43, 3) := by decide +kernel
theorem dX9_evenness_15 : decode cX9_evenness 15 = .ok (.invokevirtual 264, 3) := by decide +kernel
theorem dX9_evenness_18 : decode cX9_evenness 18 = .ok (.dreturn, 1) := by decide +kernel
theorem dX9_digest_0 : decode cX9_digest 0 = .ok (.aload_n 0, 1) := by decide +kernel
theorem dX9_digest_1 : decode cX9_digest 1 = .ok (.getfield 43, 3) := by decide +kernel
theorem dX9_digest_4 : decode cX9_digest 4 = .ok (.aload_n 0, 1) := by decide +kernel
theorem dX9_digest_5 : decode cX9_digest 5 = .ok (.getfield 10, 3) := by decide +kernel
theorem dX9_digest_8 : decode cX9_digest 8 = .ok (.invokevirtual 224, 3) := by decide +kernel
theorem dX9_digest_11 : decode cX9_digest 11 = .ok (.ldc2_w 268, 3) := by decide +kernel
theorem dX9_digest_14 : decode cX9_digest 14 = .ok (.lstore_n 1, 1) := by decide +kernel
theorem dX9_digest_15 : decode cX9_digest 15 = .ok (.iconst 0, 1) := by decide +kernel
theorem dX9_digest_16 : decode cX9_digest 16 = .ok (.istore_n 3, 1) := by decide +kernel
theorem dX9_digest_17 : decode cX9_digest 17 = .ok (.iload_n 3, 1) := by decide +kernel
theorem dX9_digest_18 : decode cX9_digest 18 = .ok (.bipush 13, 2) := by decide +kernel
theorem dX9_digest_20 : decode cX9_digest 20 = .ok (.if_icmp .gt 24, 3) := by decide +kernel
theorem dX9_digest_23 : decode cX9_digest 23 = .ok (.lload_n 1, 1) := by decide +kernel
theorem dX9_digest_24 : decode cX9_digest 24 = .ok (.aload_n 0, 1) := by decide +kernel
theorem dX9_digest_25 : decode cX9_digest 25 = .ok (.iload_n 3, 1) := by decide +kernel
theorem dX9_digest_26 : decode cX9_digest 26 = .ok (.aload_n 0, 1) := by decide +kernel
theorem dX9_digest_27 : decode cX9_digest 27 = .ok (.getfield 43, 3) := by decide +kernel
theorem dX9_digest_30 : decode cX9_digest 30 = .ok (.invokevirtual 245, 3) := by decide +kernel
theorem dX9_digest_33 : decode cX9_digest 33 = .ok (.i2l, 1) := by decide +kernel
theorem dX9_digest_34 : decode cX9_digest 34 = .ok (.invokestatic 270, 3) := by decide +kernel
theorem dX9_digest_37 : decode cX9_digest 37 = .ok (.lstore_n 1, 1) := by decide +kernel
theorem dX9_digest_38 : decode cX9_digest 38 = .ok (.iinc 3 1, 3) := by decide +kernel
theorem dX9_digest_41 : decode cX9_digest 41 = .ok (.goto (-24), 3) := by decide +kernel
theorem dX9_digest_44 : decode cX9_digest 44 = .ok (.iconst 0, 1) := by decide +kernel
theorem dX9_digest_45 : decode cX9_digest 45 = .ok (.istore_n 3, 1) := by decide +kernel
theorem dX9_digest_46 : decode cX9_digest 46 = .ok (.iload_n 3, 1) := by decide +kernel
theorem dX9_digest_47 : decode cX9_digest 47 = .ok (.iconst 5, 1) := by decide +kernel
theorem dX9_digest_48 : decode cX9_digest 48 = .ok (.if_icmp .ge 26, 3) := by decide +kernel
theorem dX9_digest_51 : decode cX9_digest 51 = .ok (.lload_n 1, 1) := by decide +kernel
theorem dX9_digest_52 : decode cX9_digest 52 = .ok (.aload_n 0, 1) := by decide +kernel
theorem dX9_digest_53 : decode cX9_digest 53 = .ok (.getfield 10, 3) := by decide +kernel
theorem dX9_digest_56 : decode cX9_digest 56 = .ok (.getfield 121, 3) := by decide +kernel
theorem dX9_digest_59 : decode cX9_digest 59 = .ok (.iload_n 3, 1) := by decide +kernel
theorem dX9_digest_60 : decode cX9_digest 60 = .ok (.invokestatic 95, 3) := by decide +kernel
theorem dX9_digest_63 : decode cX9_digest 63 = .ok (.i2l, 1) := by decide +kernel
theorem dX9_digest_64 : decode cX9_digest 64 = .ok (.invokestatic 270, 3) := by decide +kernel
theorem dX9_digest_67 : decode cX9_digest 67 = .ok (.lstore_n 1, 1) := by decide +kernel
theorem dX9_digest_68 : decode cX9_digest 68 = .ok (.iinc 3 1, 3) := by decide +kernel
theorem dX9_digest_71 : decode cX9_digest 71 = .ok (.goto (-25), 3) := by decide +kernel
theorem dX9_digest_74 : decode cX9_digest 74 = .ok (.aload_n 0, 1) := by decide +kernel
theorem dX9_digest_75 : decode cX9_digest 75 = .ok (.lload_n 1, 1) := by decide +kernel
theorem dX9_digest_76 : decode cX9_digest 76 = .ok (.aload_n 0, 1) := by decide +kernel
theorem dX9_digest_77 : decode cX9_digest 77 = .ok (.getfield 43, 3) := by decide +kernel
theorem dX9_digest_80 : decode cX9_digest 80 = .ok (.invokevirtual 274, 3) := by decide +kernel
theorem dX9_digest_83 : decode cX9_digest 83 = .ok (.lstore_n 1, 1) := by decide +kernel
theorem dX9_digest_84 : decode cX9_digest 84 = .ok (.aload_n 0, 1) := by decide +kernel
theorem dX9_digest_85 : decode cX9_digest 85 = .ok (.lload_n 1, 1) := by decide +kernel
theorem dX9_digest_86 : decode cX9_digest 86 = .ok (.invokevirtual 278, 3) := by decide +kernel
theorem dX9_digest_89 : decode cX9_digest 89 = .ok (.lstore_n 1, 1) := by decide +kernel
theorem dX9_digest_90 : decode cX9_digest 90 = .ok (.iconst 0, 1) := by decide +kernel
theorem dX9_digest_91 : decode cX9_digest 91 = .ok (.istore_n 3, 1) := by decide +kernel
theorem dX9_digest_92 : decode cX9_digest 92 = .ok (.iload_n 3, 1) := by decide +kernel
theorem dX9_digest_93 : decode cX9_digest 93 = .ok (.iconst 3, 1) := by decide +kernel
theorem dX9_digest_94 : decode cX9_digest 94 = .ok (.if_icmp .gt 24, 3) := by decide +kernel
theorem dX9_digest_97 : decode cX9_digest 97 = .ok (.lload_n 1, 1) := by decide +kernel
theorem dX9_digest_98 : decode cX9_digest 98 = .ok (.aload_n 0, 1) := by decide +kernel
theorem dX9_digest_99 : decode cX9_digest 99 = .ok (.iload_n 3, 1) := by decide +kernel
theorem dX9_digest_100 : decode cX9_digest 100 = .ok (.aload_n 0, 1) := by decide +kernel
theorem dX9_digest_101 : decode cX9_digest 101 = .ok (.getfield 43, 3) := by decide +kernel
theorem dX9_digest_104 : decode cX9_digest 104 = .ok (.invokevirtual 239, 3) := by decide +kernel
theorem dX9_digest_107 : decode cX9_digest 107 = .ok (.i2l, 1) := by decide +kernel
theorem dX9_digest_108 : decode cX9_digest 108 = .ok (.invokestatic 270, 3) := by decide +kernel
theorem dX9_digest_111 : decode cX9_digest 111 = .ok (.lstore_n 1, 1) := by decide +kernel
theorem dX9_digest_112 : decode cX9_digest 112 = .ok (.iinc 3 1, 3) := by decide +kernel
theorem dX9_digest_115 : decode cX9_digest 115 = .ok (.goto (-23), 3) := by decide +kernel
theorem dX9_digest_118 : decode cX9_digest 118 = .ok (.lload_n 1, 1) := by decide +kernel
theorem dX9_digest_119 : decode cX9_digest 119 = .ok (.aload_n 0, 1) := by decide +kernel
theorem dX9_digest_120 : decode cX9_digest 120 = .ok (.aload_n 0, 1) := by decide +kernel
theorem dX9_digest_121 : decode cX9_digest 121 = .ok (.getfield 43, 3) := by decide +kernel
theorem dX9_digest_124 : decode cX9_digest 124 = .ok (.invokevirtual 251, 3) := by decide +kernel
theorem dX9_digest_127 : decode cX9_digest 127 = .ok (.i2l, 1) := by decide +kernel
theorem dX9_digest_128 : decode cX9_digest 128 = .ok (.invokestatic 270, 3) := by decide +kernel
theorem dX9_digest_131 : decode cX9_digest 131 = .ok (.lstore_n 1, 1) := by decide +kernel
theorem dX9_digest_132 : decode cX9_digest 132 = .ok (.iconst 2, 1) := by decide +kernel
theorem dX9_digest_133 : decode cX9_digest 133 = .ok (.istore_n 3, 1) := by decide +kernel
theorem dX9_digest_134 : decode cX9_digest 134 = .ok (.iload_n 3, 1) := by decide +kernel
theorem dX9_digest_135 : decode cX9_digest 135 = .ok (.bipush 8, 2) := by decide +kernel
theorem dX9_digest_137 : decode cX9_digest 137 = .ok (.if_icmp .gt 23, 3) := by decide +kernel
theorem dX9_digest_140 : decode cX9_digest 140 = .ok (.lload_n 1, 1) := by decide +kernel
theorem dX9_digest_141 : decode cX9_digest 141 = .ok (.aload_n 0, 1) := by decide +kernel
theorem dX9_digest_142 : decode cX9_digest 142 = .ok (.getfield 10, 3) := by decide +kernel
theorem dX9_digest_145 : decode cX9_digest 145 = .ok (.iload_n 3, 1) := by decide +kernel
theorem dX9_digest_146 : decode cX9_digest 146 = .ok (.invokestatic 255, 3) := by decide +kernel
theorem dX9_digest_149 : decode cX9_digest 149 = .ok (.i2l, 1) := by decide +kernel
theorem dX9_digest_150 : decode cX9_digest 150 = .ok (.invokestatic 270, 3) := by decide +kernel
theorem dX9_digest_153 : decode cX9_digest 153 = .ok (.lstore_n 1, 1) := by decide +kernel
theorem dX9_digest_154 : decode cX9_digest 154 = .ok (.iinc 3 1, 3) := by decide +kernel
theorem dX9_digest_157 : decode cX9_digest 157 = .ok (.goto (-23), 3) := by decide +kernel
theorem dX9_digest_160 : decode cX9_digest 160 = .ok (.lload_n 1, 1) := by decide +kernel
theorem dX9_digest_161 : decode cX9_digest 161 = .ok (.aload_n 0, 1) := by decide +kernel
theorem dX9_digest_162 : decode cX9_digest 162 = .ok (.sipush 1000, 3) := by decide +kernel
theorem dX9_digest_165 : decode cX9_digest 165 = .ok (.invokevirtual 261, 3) := by decide +kernel
theorem dX9_digest_168 : decode cX9_digest 168 = .ok (.i2l, 1) := by decide +kernel
theorem dX9_digest_169 : decode cX9_digest 169 = .ok (.invokestatic 270, 3) := by decide +kernel
theorem dX9_digest_172 : decode cX9_digest 172 = .ok (.lstore_n 1, 1) := by decide +kernel
theorem dX9_digest_173 : decode cX9_digest 173 = .ok (.lload_n 1, 1) := by decide +kernel
theorem dX9_digest_174 : decode cX9_digest 174 = .ok (.aload_n 0, 1) := by decide +kernel
theorem dX9_digest_175 : decode cX9_digest 175 = .ok (.getfield 43, 3) := by decide +kernel
theorem dX9_digest_178 : decode cX9_digest 178 = .ok (.invokevirtual 264, 3) := by decide +kernel
theorem dX9_digest_181 : decode cX9_digest 181 = .ok (.invokestatic 282, 3) := by decide +kernel
theorem dX9_digest_184 : decode cX9_digest 184 = .ok (.invokestatic 270, 3) := by decide +kernel
theorem dX9_digest_187 : decode cX9_digest 187 = .ok (.lstore_n 1, 1) := by decide +kernel
theorem dX9_digest_188 : decode cX9_digest 188 = .ok (.lload_n 1, 1) := by decide +kernel
theorem dX9_digest_189 : decode cX9_digest 189 = .ok (.aload_n 0, 1) := by decide +kernel
theorem dX9_digest_190 : decode cX9_digest 190 = .ok (.getfield 26, 3) := by decide +kernel
theorem dX9_digest_193 : decode cX9_digest 193 = .ok (.getfield 210, 3) := by decide +kernel
theorem dX9_digest_196 : decode cX9_digest 196 = .ok (.ifCond .eq 7, 3) := by decide +kernel
theorem dX9_digest_199 : decode cX9_digest 199 = .ok (.lconst 1, 1) := by decide +kernel
theorem dX9_digest_200 : decode cX9_digest 200 = .ok (.goto 4, 3) := by decide +kernel
theorem dX9_digest_203 : decode cX9_digest 203 = .ok (.lconst 0, 1) := by decide +kernel
theorem dX9_digest_204 : decode cX9_digest 204 = .ok (.invokestatic 270, 3) := by decide +kernel
theorem dX9_digest_207 : decode cX9_digest 207 = .ok (.lstore_n 1, 1) := by decide +kernel
theorem dX9_digest_208 : decode cX9_digest 208 = .ok (.lload_n 1, 1) := by decide +kernel
theorem dX9_digest_209 : decode cX9_digest 209 = .ok (.aload_n 0, 1) := by decide +kernel
theorem dX9_digest_210 : decode cX9_digest 210 = .ok (.getfield 30, 3) := by decide +kernel
theorem dX9_digest_213 : decode cX9_digest 213 = .ok (.getfield 210, 3) := by decide +kernel
theorem dX9_digest_216 : decode cX9_digest 216 = .ok (.ifCond .eq 7, 3) := by decide +kernel
theorem dX9_digest_219 : decode cX9_digest 219 = .ok (.lconst 1, 1) := by decide +kernel
theorem dX9_digest_220 : decode cX9_digest 220 = .ok (.goto 4, 3) := by decide +kernel
theorem dX9_digest_223 : decode cX9_digest 223 = .ok (.lconst 0, 1) := by decide +kernel
theorem dX9_digest_224 : decode cX9_digest 224 = .ok (.invokestatic 270, 3) := by decide +kernel
theorem dX9_digest_227 : decode cX9_digest 227 = .ok (.lstore_n 1, 1) := by decide +kernel
theorem dX9_digest_228 : decode cX9_digest 228 = .ok (.aload_n 0, 1) := by decide +kernel
theorem dX9_digest_229 : decode cX9_digest 229 = .ok (.lload_n 1, 1) := by decide +kernel
theorem dX9_digest_230 : decode cX9_digest 230 = .ok (.invokevirtual 288, 3) := by decide +kernel
theorem dX9_digest_233 : decode cX9_digest 233 = .ok (.lreturn, 1) := by decide +kernel
theorem dX9_isNoRake_0 : decode cX9_isNoRake 0 = .ok (.iload_n 0, 1) := by decide +kernel
theorem dX9_isNoRake_1 : decode cX9_isNoRake 1 = .ok (.iconst 2, 1) := by decide +kernel
theorem dX9_isNoRake_2 : decode cX9_isNoRake 2 = .ok (.if_icmp .lt 9, 3) := by decide +kernel
theorem dX9_isNoRake_5 : decode cX9_isNoRake 5 = .ok (.iload_n 0, 1) := by decide +kernel
theorem dX9_isNoRake_6 : decode cX9_isNoRake 6 = .ok (.bipush 8, 2) := by decide +kernel
theorem dX9_isNoRake_8 : decode cX9_isNoRake 8 = .ok (.if_icmp .le 7, 3) := by decide +kernel
theorem dX9_isNoRake_11 : decode cX9_isNoRake 11 = .ok (.iconst 1, 1) := by decide +kernel
theorem dX9_isNoRake_12 : decode cX9_isNoRake 12 = .ok (.goto 4, 3) := by decide +kernel
theorem dX9_isNoRake_15 : decode cX9_isNoRake 15 = .ok (.iconst 0, 1) := by decide +kernel
theorem dX9_isNoRake_16 : decode cX9_isNoRake 16 = .ok (.ireturn, 1) := by decide +kernel
theorem dX9_isNoSetting_0 : decode cX9_isNoSetting 0 = .ok (.iload_n 0, 1) := by decide +kernel
theorem dX9_isNoSetting_1 : decode cX9_isNoSetting 1 = .ok (.ifCond .lt 8, 3) := by decide +kernel
theorem dX9_isNoSetting_4 : decode cX9_isNoSetting 4 = .ok (.iload_n 0, 1) := by decide +kernel
theorem dX9_isNoSetting_5 : decode cX9_isNoSetting 5 = .ok (.iconst 5, 1) := by decide +kernel
theorem dX9_isNoSetting_6 : decode cX9_isNoSetting 6 = .ok (.if_icmp .lt 7, 3) := by decide +kernel
theorem dX9_isNoSetting_9 : decode cX9_isNoSetting 9 = .ok (.iconst 1, 1) := by decide +kernel
theorem dX9_isNoSetting_10 : decode cX9_isNoSetting 10 = .ok (.goto 4, 3) := by decide +kernel
theorem dX9_isNoSetting_13 : decode cX9_isNoSetting 13 = .ok (.iconst 0, 1) := by decide +kernel
theorem dX9_isNoSetting_14 : decode cX9_isNoSetting 14 = .ok (.ireturn, 1) := by decide +kernel
theorem dX9_isNoSlot_0 : decode cX9_isNoSlot 0 = .ok (.iload_n 0, 1) := by decide +kernel
theorem dX9_isNoSlot_1 : decode cX9_isNoSlot 1 = .ok (.ifCond .lt 8, 3) := by decide +kernel
theorem dX9_isNoSlot_4 : decode cX9_isNoSlot 4 = .ok (.iload_n 0, 1) := by decide +kernel
theorem dX9_isNoSlot_5 : decode cX9_isNoSlot 5 = .ok (.iconst 1, 1) := by decide +kernel
theorem dX9_isNoSlot_6 : decode cX9_isNoSlot 6 = .ok (.if_icmp .le 7, 3) := by decide +kernel
theorem dX9_isNoSlot_9 : decode cX9_isNoSlot 9 = .ok (.iconst 1, 1) := by decide +kernel
theorem dX9_isNoSlot_10 : decode cX9_isNoSlot 10 = .ok (.goto 4, 3) := by decide +kernel
theorem dX9_isNoSlot_13 : decode cX9_isNoSlot 13 = .ok (.iconst 0, 1) := by decide +kernel
theorem dX9_isNoSlot_14 : decode cX9_isNoSlot 14 = .ok (.ireturn, 1) := by decide +kernel
theorem dX9_isNoHole_0 : decode cX9_isNoHole 0 = .ok (.iload_n 1, 1) := by decide +kernel
theorem dX9_isNoHole_1 : decode cX9_isNoHole 1 = .ok (.ifCond .lt 14, 3) := by decide +kernel
theorem dX9_isNoHole_4 : decode cX9_isNoHole 4 = .ok (.iload_n 1, 1) := by decide +kernel
theorem dX9_isNoHole_5 : decode cX9_isNoHole 5 = .ok (.aload_n 0, 1) := by decide +kernel
theorem dX9_isNoHole_6 : decode cX9_isNoHole 6 = .ok (.getfield 10, 3) := by decide +kernel
theorem dX9_isNoHole_9 : decode cX9_isNoHole 9 = .ok (.getfield 69, 3) := by decide +kernel
theorem dX9_isNoHole_12 : decode cX9_isNoHole 12 = .ok (.if_icmp .lt 7, 3) := by decide +kernel
theorem dX9_isNoHole_15 : decode cX9_isNoHole 15 = .ok (.iconst 1, 1) := by decide +kernel
theorem dX9_isNoHole_16 : decode cX9_isNoHole 16 = .ok (.goto 4, 3) := by decide +kernel
theorem dX9_isNoHole_19 : decode cX9_isNoHole 19 = .ok (.iconst 0, 1) := by decide +kernel
theorem dX9_isNoHole_20 : decode cX9_isNoHole 20 = .ok (.ireturn, 1) := by decide +kernel
theorem dX9_isNoReading_0 : decode cX9_isNoReading 0 = .ok (.iload_n 1, 1) := by decide +kernel
theorem dX9_isNoReading_1 : decode cX9_isNoReading 1 = .ok (.ifCond .lt 17, 3) := by decide +kernel
theorem dX9_isNoReading_4 : decode cX9_isNoReading 4 = .ok (.iload_n 1, 1) := by decide +kernel
theorem dX9_isNoReading_5 : decode cX9_isNoReading 5 = .ok (.aload_n 0, 1) := by decide +kernel
theorem dX9_isNoReading_6 : decode cX9_isNoReading 6 = .ok (.getfield 10, 3) := by decide +kernel
theorem dX9_isNoReading_9 : decode cX9_isNoReading 9 = .ok (.getfield 141, 3) := by decide +kernel
theorem dX9_isNoReading_12 : decode cX9_isNoReading 12 = .ok (.getfield 145, 3) := by decide +kernel
theorem dX9_isNoReading_15 : decode cX9_isNoReading 15 = .ok (.if_icmp .lt 7, 3) := by decide +kernel
theorem dX9_isNoReading_18 : decode cX9_isNoReading 18 = .ok (.iconst 1, 1) := by decide +kernel
theorem dX9_isNoReading_19 : decode cX9_isNoReading 19 = .ok (.goto 4, 3) := by decide +kernel
theorem dX9_isNoReading_22 : decode cX9_isNoReading 22 = .ok (.iconst 0, 1) := by decide +kernel
theorem dX9_isNoReading_23 : decode cX9_isNoReading 23 = .ok (.ireturn, 1) := by decide +kernel
theorem dX9_slotOf_0 : decode cX9_slotOf 0 = .ok (.iload_n 1, 1) := by decide +kernel
theorem dX9_slotOf_1 : decode cX9_slotOf 1 = .ok (.ifCond .ne 10, 3) := by decide +kernel
theorem dX9_slotOf_4 : decode cX9_slotOf 4 = .ok (.aload_n 0, 1) := by decide +kernel
theorem dX9_slotOf_5 : decode cX9_slotOf 5 = .ok (.getfield 26, 3) := by decide +kernel
theorem dX9_slotOf_8 : decode cX9_slotOf 8 = .ok (.goto 7, 3) := by decide +kernel
theorem dX9_slotOf_11 : decode cX9_slotOf 11 = .ok (.aload_n 0, 1) := by decide +kernel
theorem dX9_slotOf_12 : decode cX9_slotOf 12 = .ok (.getfield 30, 3) := by decide +kernel
theorem dX9_slotOf_15 : decode cX9_slotOf 15 = .ok (.areturn, 1) := by decide +kernel
theorem dX9_holeValue_0 : decode cX9_holeValue 0 = .ok (.iload_n 2, 1) := by decide +kernel
theorem dX9_holeValue_1 : decode cX9_holeValue 1 = .ok (.tableswitch 214 0 10 #[59, 78, 90, 102, 114, 130, 139, 156, 176, 185, 205], 59) := by decide +kernel
theorem dX9_holeValue_60 : decode cX9_holeValue 60 = .ok (.aload_n 0, 1) := by decide +kernel
theorem dX9_holeValue_61 : decode cX9_holeValue 61 = .ok (.getfield 10, 3) := by decide +kernel
theorem dX9_holeValue_64 : decode cX9_holeValue 64 = .ok (.getfield 79, 3) := by decide +kernel
theorem dX9_holeValue_67 : decode cX9_holeValue 67 = .ok (.iload_n 1, 1) := by decide +kernel
theorem dX9_holeValue_68 : decode cX9_holeValue 68 = .ok (.aload_n 0, 1) := by decide +kernel
theorem dX9_holeValue_69 : decode cX9_holeValue 69 = .ok (.getfield 10, 3) := by decide +kernel
theorem dX9_holeValue_72 : decode cX9_holeValue 72 = .ok (.getfield 69, 3) := by decide +kernel
theorem dX9_holeValue_75 : decode cX9_holeValue 75 = .ok (.invokestatic 291, 3) := by decide +kernel
theorem dX9_holeValue_78 : decode cX9_holeValue 78 = .ok (.ireturn, 1) := by decide +kernel
theorem dX9_holeValue_79 : decode cX9_holeValue 79 = .ok (.aload_n 0, 1) := by decide +kernel
theorem dX9_holeValue_80 : decode cX9_holeValue 80 = .ok (.getfield 10, 3) := by decide +kernel
theorem dX9_holeValue_83 : decode cX9_holeValue 83 = .ok (.getfield 92, 3) := by decide +kernel
theorem dX9_holeValue_86 : decode cX9_holeValue 86 = .ok (.iload_n 1, 1) := by decide +kernel
theorem dX9_holeValue_87 : decode cX9_holeValue 87 = .ok (.invokestatic 95, 3) := by decide +kernel
theorem dX9_holeValue_90 : decode cX9_holeValue 90 = .ok (.ireturn, 1) := by decide +kernel
theorem dX9_holeValue_91 : decode cX9_holeValue 91 = .ok (.aload_n 0, 1) := by decide +kernel
theorem dX9_holeValue_92 : decode cX9_holeValue 92 = .ok (.getfield 10, 3) := by decide +kernel
theorem dX9_holeValue_95 : decode cX9_holeValue 95 = .ok (.getfield 107, 3) := by decide +kernel
theorem dX9_holeValue_98 : decode cX9_holeValue 98 = .ok (.iload_n 1, 1) := by decide +kernel
theorem dX9_holeValue_99 : decode cX9_holeValue 99 = .ok (.invokestatic 95, 3) := by decide +kernel
theorem dX9_holeValue_102 : decode cX9_holeValue 102 = .ok (.ireturn, 1) := by decide +kernel
theorem dX9_holeValue_103 : decode cX9_holeValue 103 = .ok (.aload_n 0, 1) := by decide +kernel
theorem dX9_holeValue_104 : decode cX9_holeValue 104 = .ok (.getfield 10, 3) := by decide +kernel
theorem dX9_holeValue_107 : decode cX9_holeValue 107 = .ok (.getfield 124, 3) := by decide +kernel
theorem dX9_holeValue_110 : decode cX9_holeValue 110 = .ok (.iload_n 1, 1) := by decide +kernel
theorem dX9_holeValue_111 : decode cX9_holeValue 111 = .ok (.invokestatic 95, 3) := by decide +kernel
theorem dX9_holeValue_114 : decode cX9_holeValue 114 = .ok (.ireturn, 1) := by decide +kernel
theorem dX9_holeValue_115 : decode cX9_holeValue 115 = .ok (.aload_n 0, 1) := by decide +kernel
theorem dX9_holeValue_116 : decode cX9_holeValue 116 = .ok (.getfield 10, 3) := by decide +kernel
theorem dX9_holeValue_119 : decode cX9_holeValue 119 = .ok (.iload_n 1, 1) := by decide +kernel
theorem dX9_holeValue_120 : decode cX9_holeValue 120 = .ok (.aload_n 0, 1) := by decide +kernel
theorem dX9_holeValue_121 : decode cX9_holeValue 121 = .ok (.getfield 10, 3) := by decide +kernel
theorem dX9_holeValue_124 : decode cX9_holeValue 124 = .ok (.getfield 69, 3) := by decide +kernel
theorem dX9_holeValue_127 : decode cX9_holeValue 127 = .ok (.invokestatic 295, 3) := by decide +kernel
theorem dX9_holeValue_130 : decode cX9_holeValue 130 = .ok (.ireturn, 1) := by decide +kernel
theorem dX9_holeValue_131 : decode cX9_holeValue 131 = .ok (.aload_n 0, 1) := by decide +kernel
theorem dX9_holeValue_132 : decode cX9_holeValue 132 = .ok (.getfield 10, 3) := by decide +kernel
theorem dX9_holeValue_135 : decode cX9_holeValue 135 = .ok (.iload_n 1, 1) := by decide +kernel
theorem dX9_holeValue_136 : decode cX9_holeValue 136 = .ok (.invokestatic 127, 3) := by decide +kernel
theorem dX9_holeValue_139 : decode cX9_holeValue 139 = .ok (.ireturn, 1) := by decide +kernel
theorem dX9_holeValue_140 : decode cX9_holeValue 140 = .ok (.aload_n 0, 1) := by decide +kernel
theorem dX9_holeValue_141 : decode cX9_holeValue 141 = .ok (.getfield 10, 3) := by decide +kernel
theorem dX9_holeValue_144 : decode cX9_holeValue 144 = .ok (.iload_n 1, 1) := by decide +kernel
theorem dX9_holeValue_145 : decode cX9_holeValue 145 = .ok (.aload_n 0, 1) := by decide +kernel
theorem dX9_holeValue_146 : decode cX9_holeValue 146 = .ok (.getfield 10, 3) := by decide +kernel
theorem dX9_holeValue_149 : decode cX9_holeValue 149 = .ok (.iload_n 1, 1) := by decide +kernel
theorem dX9_holeValue_150 : decode cX9_holeValue 150 = .ok (.invokestatic 127, 3) := by decide +kernel
theorem dX9_holeValue_153 : decode cX9_holeValue 153 = .ok (.invokestatic 133, 3) := by decide +kernel
theorem dX9_holeValue_156 : decode cX9_holeValue 156 = .ok (.ireturn, 1) := by decide +kernel
theorem dX9_holeValue_157 : decode cX9_holeValue 157 = .ok (.aload_n 3, 1) := by decide +kernel
theorem dX9_holeValue_158 : decode cX9_holeValue 158 = .ok (.getfield 298, 3) := by decide +kernel
theorem dX9_holeValue_161 : decode cX9_holeValue 161 = .ok (.ifCond .ne 7, 3) := by decide +kernel
theorem dX9_holeValue_164 : decode cX9_holeValue 164 = .ok (.iconst (-1), 1) := by decide +kernel
theorem dX9_holeValue_165 : decode cX9_holeValue 165 = .ok (.goto 11, 3) := by decide +kernel
theorem dX9_holeValue_168 : decode cX9_holeValue 168 = .ok (.aload_n 3, 1) := by decide +kernel
theorem dX9_holeValue_169 : decode cX9_holeValue 169 = .ok (.getfield 301, 3) := by decide +kernel
theorem dX9_holeValue_172 : decode cX9_holeValue 172 = .ok (.iload_n 1, 1) := by decide +kernel
theorem dX9_holeValue_173 : decode cX9_holeValue 173 = .ok (.invokestatic 95, 3) := by decide +kernel
theorem dX9_holeValue_176 : decode cX9_holeValue 176 = .ok (.ireturn, 1) := by decide +kernel
theorem dX9_holeValue_177 : decode cX9_holeValue 177 = .ok (.aload_n 3, 1) := by decide +kernel
theorem dX9_holeValue_178 : decode cX9_holeValue 178 = .ok (.getfield 304, 3) := by decide +kernel
theorem dX9_holeValue_181 : decode cX9_holeValue 181 = .ok (.iload_n 1, 1) := by decide +kernel
theorem dX9_holeValue_182 : decode cX9_holeValue 182 = .ok (.invokestatic 95, 3) := by decide +kernel
theorem dX9_holeValue_185 : decode cX9_holeValue 185 = .ok (.ireturn, 1) := by decide +kernel
theorem dX9_holeValue_186 : decode cX9_holeValue 186 = .ok (.aload_n 3, 1) := by decide +kernel
theorem dX9_holeValue_187 : decode cX9_holeValue 187 = .ok (.getfield 307, 3) := by decide +kernel
theorem dX9_holeValue_190 : decode cX9_holeValue 190 = .ok (.ifCond .ne 7, 3) := by decide +kernel
theorem dX9_holeValue_193 : decode cX9_holeValue 193 = .ok (.iconst (-1), 1) := by decide +kernel
theorem dX9_holeValue_194 : decode cX9_holeValue 194 = .ok (.goto 11, 3) := by decide +kernel
theorem dX9_holeValue_197 : decode cX9_holeValue 197 = .ok (.aload_n 3, 1) := by decide +kernel
theorem dX9_holeValue_198 : decode cX9_holeValue 198 = .ok (.getfield 310, 3) := by decide +kernel
theorem dX9_holeValue_201 : decode cX9_holeValue 201 = .ok (.iload_n 1, 1) := by decide +kernel
theorem dX9_holeValue_202 : decode cX9_holeValue 202 = .ok (.invokestatic 95, 3) := by decide +kernel
theorem dX9_holeValue_205 : decode cX9_holeValue 205 = .ok (.ireturn, 1) := by decide +kernel
theorem dX9_holeValue_206 : decode cX9_holeValue 206 = .ok (.aload_n 3, 1) := by decide +kernel
theorem dX9_holeValue_207 : decode cX9_holeValue 207 = .ok (.iload_n 1, 1) := by decide +kernel
theorem dX9_holeValue_208 : decode cX9_holeValue 208 = .ok (.iload_n 1, 1) := by decide +kernel
theorem dX9_holeValue_209 : decode cX9_holeValue 209 = .ok (.iconst 1, 1) := by decide +kernel
theorem dX9_holeValue_210 : decode cX9_holeValue 210 = .ok (.iadd, 1) := by decide +kernel
theorem dX9_holeValue_211 : decode cX9_holeValue 211 = .ok (.invokevirtual 313, 3) := by decide +kernel
theorem dX9_holeValue_214 : decode cX9_holeValue 214 = .ok (.ireturn, 1) := by decide +kernel
theorem dX9_holeValue_215 : decode cX9_holeValue 215 = .ok (.aload_n 0, 1) := by decide +kernel
theorem dX9_holeValue_216 : decode cX9_holeValue 216 = .ok (.getfield 10, 3) := by decide +kernel
theorem dX9_holeValue_219 : decode cX9_holeValue 219 = .ok (.getfield 316, 3) := by decide +kernel
theorem dX9_holeValue_222 : decode cX9_holeValue 222 = .ok (.iload_n 1, 1) := by decide +kernel
theorem dX9_holeValue_223 : decode cX9_holeValue 223 = .ok (.invokestatic 95, 3) := by decide +kernel
theorem dX9_holeValue_226 : decode cX9_holeValue 226 = .ok (.ireturn, 1) := by decide +kernel
theorem dX9_readingValue_0 : decode cX9_readingValue 0 = .ok (.aload_n 0, 1) := by decide +kernel
theorem dX9_readingValue_1 : decode cX9_readingValue 1 = .ok (.getfield 10, 3) := by decide +kernel
theorem dX9_readingValue_4 : decode cX9_readingValue 4 = .ok (.getfield 141, 3) := by decide +kernel
theorem dX9_readingValue_7 : decode cX9_readingValue 7 = .ok (.astore_n 3, 1) := by decide +kernel
theorem dX9_readingValue_8 : decode cX9_readingValue 8 = .ok (.iload_n 2, 1) := by decide +kernel
theorem dX9_readingValue_9 : decode cX9_readingValue 9 = .ok (.tableswitch 73 8 10 #[27, 36, 45], 27) := by decide +kernel
theorem dX9_readingValue_36 : decode cX9_readingValue 36 = .ok (.aload_n 3, 1) := by decide +kernel
theorem dX9_readingValue_37 : decode cX9_readingValue 37 = .ok (.getfield 319, 3) := by decide +kernel
theorem dX9_readingValue_40 : decode cX9_readingValue 40 = .ok (.iload_n 1, 1) := by decide +kernel
theorem dX9_readingValue_41 : decode cX9_readingValue 41 = .ok (.invokestatic 95, 3) := by decide +kernel
theorem dX9_readingValue_44 : decode cX9_readingValue 44 = .ok (.ireturn, 1) := by decide +kernel
theorem dX9_readingValue_45 : decode cX9_readingValue 45 = .ok (.aload_n 3, 1) := by decide +kernel
theorem dX9_readingValue_46 : decode cX9_readingValue 46 = .ok (.getfield 322, 3) := by decide +kernel
theorem dX9_readingValue_49 : decode cX9_readingValue 49 = .ok (.iload_n 1, 1) := by decide +kernel
theorem dX9_readingValue_50 : decode cX9_readingValue 50 = .ok (.invokestatic 95, 3) := by decide +kernel
theorem dX9_readingValue_53 : decode cX9_readingValue 53 = .ok (.ireturn, 1) := by decide +kernel
theorem dX9_readingValue_54 : decode cX9_readingValue 54 = .ok (.aload_n 3, 1) := by decide +kernel
theorem dX9_readingValue_55 : decode cX9_readingValue 55 = .ok (.iload_n 1, 1) := by decide +kernel
theorem dX9_readingValue_56 : decode cX9_readingValue 56 = .ok (.aload_n 0, 1) := by decide +kernel
theorem dX9_readingValue_57 : decode cX9_readingValue 57 = .ok (.getfield 10, 3) := by decide +kernel
theorem dX9_readingValue_60 : decode cX9_readingValue 60 = .ok (.getfield 69, 3) := by decide +kernel
theorem dX9_readingValue_63 : decode cX9_readingValue 63 = .ok (.aload_n 0, 1) := by decide +kernel
theorem dX9_readingValue_64 : decode cX9_readingValue 64 = .ok (.getfield 10, 3) := by decide +kernel
theorem dX9_readingValue_67 : decode cX9_readingValue 67 = .ok (.getfield 79, 3) := by decide +kernel
theorem dX9_readingValue_70 : decode cX9_readingValue 70 = .ok (.invokevirtual 325, 3) := by decide +kernel
theorem dX9_readingValue_73 : decode cX9_readingValue 73 = .ok (.ifCond .eq 7, 3) := by decide +kernel
theorem dX9_readingValue_76 : decode cX9_readingValue 76 = .ok (.iconst 1, 1) := by decide +kernel
theorem dX9_readingValue_77 : decode cX9_readingValue 77 = .ok (.goto 4, 3) := by decide +kernel
theorem dX9_readingValue_80 : decode cX9_readingValue 80 = .ok (.iconst 0, 1) := by decide +kernel
theorem dX9_readingValue_81 : decode cX9_readingValue 81 = .ok (.ireturn, 1) := by decide +kernel
theorem dX9_readingValue_82 : decode cX9_readingValue 82 = .ok (.iload_n 2, 1) := by decide +kernel
theorem dX9_readingValue_83 : decode cX9_readingValue 83 = .ok (.aload_n 3, 1) := by decide +kernel
theorem dX9_readingValue_84 : decode cX9_readingValue 84 = .ok (.getfield 319, 3) := by decide +kernel
theorem dX9_readingValue_87 : decode cX9_readingValue 87 = .ok (.iload_n 1, 1) := by decide +kernel
theorem dX9_readingValue_88 : decode cX9_readingValue 88 = .ok (.invokestatic 95, 3) := by decide +kernel
theorem dX9_readingValue_91 : decode cX9_readingValue 91 = .ok (.if_icmp .ge 12, 3) := by decide +kernel
theorem dX9_readingValue_94 : decode cX9_readingValue 94 = .ok (.aload_n 3, 1) := by decide +kernel
theorem dX9_readingValue_95 : decode cX9_readingValue 95 = .ok (.iload_n 1, 1) := by decide +kernel
theorem dX9_readingValue_96 : decode cX9_readingValue 96 = .ok (.iload_n 2, 1) := by decide +kernel
theorem dX9_readingValue_97 : decode cX9_readingValue 97 = .ok (.invokevirtual 329, 3) := by decide +kernel
theorem dX9_readingValue_100 : decode cX9_readingValue 100 = .ok (.goto 4, 3) := by decide +kernel
theorem dX9_readingValue_103 : decode cX9_readingValue 103 = .ok (.iconst (-1), 1) := by decide +kernel
theorem dX9_readingValue_104 : decode cX9_readingValue 104 = .ok (.ireturn, 1) := by decide +kernel
theorem dX9_flowValue_0 : decode cX9_flowValue 0 = .ok (.aload_n 0, 1) := by decide +kernel
theorem dX9_flowValue_1 : decode cX9_flowValue 1 = .ok (.getfield 10, 3) := by decide +kernel
theorem dX9_flowValue_4 : decode cX9_flowValue 4 = .ok (.getfield 69, 3) := by decide +kernel
theorem dX9_flowValue_7 : decode cX9_flowValue 7 = .ok (.iconst 2, 1) := by decide +kernel
theorem dX9_flowValue_8 : decode cX9_flowValue 8 = .ok (.idiv, 1) := by decide +kernel
theorem dX9_flowValue_9 : decode cX9_flowValue 9 = .ok (.istore_n 3, 1) := by decide +kernel
theorem dX9_flowValue_10 : decode cX9_flowValue 10 = .ok (.iload_n 1, 1) := by decide +kernel
theorem dX9_flowValue_11 : decode cX9_flowValue 11 = .ok (.tableswitch 58 0 2 #[25, 38, 45], 25) := by decide +kernel
theorem dX9_flowValue_36 : decode cX9_flowValue 36 = .ok (.aload_n 2, 1) := by decide +kernel
theorem dX9_flowValue_37 : decode cX9_flowValue 37 = .ok (.iconst 0, 1) := by decide +kernel
theorem dX9_flowValue_38 : decode cX9_flowValue 38 = .ok (.aload_n 0, 1) := by decide +kernel
theorem dX9_flowValue_39 : decode cX9_flowValue 39 = .ok (.getfield 10, 3) := by decide +kernel
theorem dX9_flowValue_42 : decode cX9_flowValue 42 = .ok (.getfield 69, 3) := by decide +kernel
theorem dX9_flowValue_45 : decode cX9_flowValue 45 = .ok (.invokevirtual 313, 3) := by decide +kernel
theorem dX9_flowValue_48 : decode cX9_flowValue 48 = .ok (.ireturn, 1) := by decide +kernel
theorem dX9_flowValue_49 : decode cX9_flowValue 49 = .ok (.aload_n 2, 1) := by decide +kernel
theorem dX9_flowValue_50 : decode cX9_flowValue 50 = .ok (.iconst 0, 1) := by decide +kernel
theorem dX9_flowValue_51 : decode cX9_flowValue 51 = .ok (.iload_n 3, 1) := by decide +kernel
theorem dX9_flowValue_52 : decode cX9_flowValue 52 = .ok (.invokevirtual 313, 3) := by decide +kernel
theorem dX9_flowValue_55 : decode cX9_flowValue 55 = .ok (.ireturn, 1) := by decide +kernel
theorem dX9_flowValue_56 : decode cX9_flowValue 56 = .ok (.aload_n 2, 1) := by decide +kernel
theorem dX9_flowValue_57 : decode cX9_flowValue 57 = .ok (.iload_n 3, 1) := by decide +kernel
theorem dX9_flowValue_58 : decode cX9_flowValue 58 = .ok (.aload_n 0, 1) := by decide +kernel
theorem dX9_flowValue_59 : decode cX9_flowValue 59 = .ok (.getfield 10, 3) := by decide +kernel
theorem dX9_flowValue_62 : decode cX9_flowValue 62 = .ok (.getfield 69, 3) := by decide +kernel
theorem dX9_flowValue_65 : decode cX9_flowValue 65 = .ok (.invokevirtual 313, 3) := by decide +kernel
theorem dX9_flowValue_68 : decode cX9_flowValue 68 = .ok (.ireturn, 1) := by decide +kernel
theorem dX9_flowValue_69 : decode cX9_flowValue 69 = .ok (.aload_n 0, 1) := by decide +kernel
theorem dX9_flowValue_70 : decode cX9_flowValue 70 = .ok (.getfield 10, 3) := by decide +kernel
theorem dX9_flowValue_73 : decode cX9_flowValue 73 = .ok (.aload_n 0, 1) := by decide +kernel
theorem dX9_flowValue_74 : decode cX9_flowValue 74 = .ok (.getfield 10, 3) := by decide +kernel
theorem dX9_flowValue_77 : decode cX9_flowValue 77 = .ok (.getfield 69, 3) := by decide +kernel
theorem dX9_flowValue_80 : decode cX9_flowValue 80 = .ok (.invokestatic 255, 3) := by decide +kernel
theorem dX9_flowValue_83 : decode cX9_flowValue 83 = .ok (.ireturn, 1) := by decide +kernel
theorem dX9_countValue_0 : decode cX9_countValue 0 = .ok (.iload_n 1, 1) := by decide +kernel
theorem dX9_countValue_1 : decode cX9_countValue 1 = .ok (.tableswitch 176 0 12 #[67, 75, 83, 94, 99, 104, 110, 116, 122, 128, 152, 160, 168], 67) := by decide +kernel
theorem dX9_countValue_68 : decode cX9_countValue 68 = .ok (.aload_n 0, 1) := by decide +kernel
theorem dX9_countValue_69 : decode cX9_countValue 69 = .ok (.getfield 10, 3) := by decide +kernel
theorem dX9_countValue_72 : decode cX9_countValue 72 = .ok (.getfield 69, 3) := by decide +kernel
theorem dX9_countValue_75 : decode cX9_countValue 75 = .ok (.ireturn, 1) := by decide +kernel
theorem dX9_countValue_76 : decode cX9_countValue 76 = .ok (.aload_n 0, 1) := by decide +kernel
theorem dX9_countValue_77 : decode cX9_countValue 77 = .ok (.getfield 10, 3) := by decide +kernel
theorem dX9_countValue_80 : decode cX9_countValue 80 = .ok (.getfield 79, 3) := by decide +kernel
theorem dX9_countValue_83 : decode cX9_countValue 83 = .ok (.ireturn, 1) := by decide +kernel
theorem dX9_countValue_84 : decode cX9_countValue 84 = .ok (.aload_n 0, 1) := by decide +kernel
theorem dX9_countValue_85 : decode cX9_countValue 85 = .ok (.getfield 10, 3) := by decide +kernel
theorem dX9_countValue_88 : decode cX9_countValue 88 = .ok (.getfield 141, 3) := by decide +kernel
theorem dX9_countValue_91 : decode cX9_countValue 91 = .ok (.getfield 145, 3) := by decide +kernel
theorem dX9_countValue_94 : decode cX9_countValue 94 = .ok (.ireturn, 1) := by decide +kernel
theorem dX9_countValue_95 : decode cX9_countValue 95 = .ok (.aload_n 2, 1) := by decide +kernel
theorem dX9_countValue_96 : decode cX9_countValue 96 = .ok (.getfield 298, 3) := by decide +kernel
theorem dX9_countValue_99 : decode cX9_countValue 99 = .ok (.ireturn, 1) := by decide +kernel
theorem dX9_countValue_100 : decode cX9_countValue 100 = .ok (.aload_n 2, 1) := by decide +kernel
theorem dX9_countValue_101 : decode cX9_countValue 101 = .ok (.getfield 307, 3) := by decide +kernel
theorem dX9_countValue_104 : decode cX9_countValue 104 = .ok (.ireturn, 1) := by decide +kernel
theorem dX9_countValue_105 : decode cX9_countValue 105 = .ok (.aload_n 2, 1) := by decide +kernel
theorem dX9_countValue_106 : decode cX9_countValue 106 = .ok (.iconst 1, 1) := by decide +kernel
theorem dX9_countValue_107 : decode cX9_countValue 107 = .ok (.invokevirtual 332, 3) := by decide +kernel
theorem dX9_countValue_110 : decode cX9_countValue 110 = .ok (.ireturn, 1) := by decide +kernel
theorem dX9_countValue_111 : decode cX9_countValue 111 = .ok (.aload_n 2, 1) := by decide +kernel
theorem dX9_countValue_112 : decode cX9_countValue 112 = .ok (.iconst 2, 1) := by decide +kernel
theorem dX9_countValue_113 : decode cX9_countValue 113 = .ok (.invokevirtual 332, 3) := by decide +kernel
theorem dX9_countValue_116 : decode cX9_countValue 116 = .ok (.ireturn, 1) := by decide +kernel
theorem dX9_countValue_117 : decode cX9_countValue 117 = .ok (.aload_n 2, 1) := by decide +kernel
theorem dX9_countValue_118 : decode cX9_countValue 118 = .ok (.iconst 3, 1) := by decide +kernel
theorem dX9_countValue_119 : decode cX9_countValue 119 = .ok (.invokevirtual 332, 3) := by decide +kernel
theorem dX9_countValue_122 : decode cX9_countValue 122 = .ok (.ireturn, 1) := by decide +kernel
theorem dX9_countValue_123 : decode cX9_countValue 123 = .ok (.aload_n 2, 1) := by decide +kernel
theorem dX9_countValue_124 : decode cX9_countValue 124 = .ok (.iconst 4, 1) := by decide +kernel
theorem dX9_countValue_125 : decode cX9_countValue 125 = .ok (.invokevirtual 332, 3) := by decide +kernel
theorem dX9_countValue_128 : decode cX9_countValue 128 = .ok (.ireturn, 1) := by decide +kernel
theorem dX9_countValue_129 : decode cX9_countValue 129 = .ok (.aload_n 0, 1) := by decide +kernel
theorem dX9_countValue_130 : decode cX9_countValue 130 = .ok (.getfield 10, 3) := by decide +kernel
theorem dX9_countValue_133 : decode cX9_countValue 133 = .ok (.getfield 335, 3) := by decide +kernel
theorem dX9_countValue_136 : decode cX9_countValue 136 = .ok (.aload_n 0, 1) := by decide +kernel
theorem dX9_countValue_137 : decode cX9_countValue 137 = .ok (.getfield 10, 3) := by decide +kernel
theorem dX9_countValue_140 : decode cX9_countValue 140 = .ok (.getfield 338, 3) := by decide +kernel
theorem dX9_countValue_143 : decode cX9_countValue 143 = .ok (.iadd, 1) := by decide +kernel
theorem dX9_countValue_144 : decode cX9_countValue 144 = .ok (.aload_n 0, 1) := by decide +kernel
theorem dX9_countValue_145 : decode cX9_countValue 145 = .ok (.getfield 10, 3) := by decide +kernel
theorem dX9_countValue_148 : decode cX9_countValue 148 = .ok (.invokevirtual 341, 3) := by decide +kernel
theorem dX9_countValue_151 : decode cX9_countValue 151 = .ok (.iadd, 1) := by decide +kernel
theorem dX9_countValue_152 : decode cX9_countValue 152 = .ok (.ireturn, 1) := by decide +kernel
theorem dX9_countValue_153 : decode cX9_countValue 153 = .ok (.aload_n 0, 1) := by decide +kernel
theorem dX9_countValue_154 : decode cX9_countValue 154 = .ok (.getfield 10, 3) := by decide +kernel
theorem dX9_countValue_157 : decode cX9_countValue 157 = .ok (.getfield 335, 3) := by decide +kernel
theorem dX9_countValue_160 : decode cX9_countValue 160 = .ok (.ireturn, 1) := by decide +kernel
theorem dX9_countValue_161 : decode cX9_countValue 161 = .ok (.aload_n 0, 1) := by decide +kernel
theorem dX9_countValue_162 : decode cX9_countValue 162 = .ok (.getfield 10, 3) := by decide +kernel
theorem dX9_countValue_165 : decode cX9_countValue 165 = .ok (.getfield 338, 3) := by decide +kernel
theorem dX9_countValue_168 : decode cX9_countValue 168 = .ok (.ireturn, 1) := by decide +kernel
theorem dX9_countValue_169 : decode cX9_countValue 169 = .ok (.aload_n 0, 1) := by decide +kernel
theorem dX9_countValue_170 : decode cX9_countValue 170 = .ok (.getfield 10, 3) := by decide +kernel
theorem dX9_countValue_173 : decode cX9_countValue 173 = .ok (.getfield 344, 3) := by decide +kernel
theorem dX9_countValue_176 : decode cX9_countValue 176 = .ok (.ireturn, 1) := by decide +kernel
theorem dX9_countValue_177 : decode cX9_countValue 177 = .ok (.aload_n 0, 1) := by decide +kernel
theorem dX9_countValue_178 : decode cX9_countValue 178 = .ok (.getfield 19, 3) := by decide +kernel
theorem dX9_countValue_181 : decode cX9_countValue 181 = .ok (.getfield 216, 3) := by decide +kernel
theorem dX9_countValue_184 : decode cX9_countValue 184 = .ok (.ireturn, 1) := by decide +kernel
theorem dX9_wholeIfRight_0 : decode cX9_wholeIfRight 0 = .ok (.aload_n 0, 1) := by decide +kernel
theorem dX9_wholeIfRight_1 : decode cX9_wholeIfRight 1 = .ok (.getfield 47, 3) := by decide +kernel
theorem dX9_wholeIfRight_4 : decode cX9_wholeIfRight 4 = .ok (.aload_n 0, 1) := by decide +kernel
theorem dX9_wholeIfRight_5 : decode cX9_wholeIfRight 5 = .ok (.getfield 10, 3) := by decide +kernel
theorem dX9_wholeIfRight_8 : decode cX9_wholeIfRight 8 = .ok (.iload_n 1, 1) := by decide +kernel
theorem dX9_wholeIfRight_9 : decode cX9_wholeIfRight 9 = .ok (.aload_n 0, 1) := by decide +kernel
theorem dX9_wholeIfRight_10 : decode cX9_wholeIfRight 10 = .ok (.getfield 10, 3) := by decide +kernel
theorem dX9_wholeIfRight_13 : decode cX9_wholeIfRight 13 = .ok (.iload_n 1, 1) := by decide +kernel
theorem dX9_wholeIfRight_14 : decode cX9_wholeIfRight 14 = .ok (.invokestatic 127, 3) := by decide +kernel
theorem dX9_wholeIfRight_17 : decode cX9_wholeIfRight 17 = .ok (.invokevirtual 347, 3) := by decide +kernel
theorem dX9_wholeIfRight_20 : decode cX9_wholeIfRight 20 = .ok (.aload_n 0, 1) := by decide +kernel
theorem dX9_wholeIfRight_21 : decode cX9_wholeIfRight 21 = .ok (.getfield 47, 3) := by decide +kernel
theorem dX9_wholeIfRight_24 : decode cX9_wholeIfRight 24 = .ok (.iconst 0, 1) := by decide +kernel
theorem dX9_wholeIfRight_25 : decode cX9_wholeIfRight 25 = .ok (.aload_n 0, 1) := by decide +kernel
theorem dX9_wholeIfRight_26 : decode cX9_wholeIfRight 26 = .ok (.getfield 10, 3) := by decide +kernel
theorem dX9_wholeIfRight_29 : decode cX9_wholeIfRight 29 = .ok (.getfield 69, 3) := by decide +kernel
theorem dX9_wholeIfRight_32 : decode cX9_wholeIfRight 32 = .ok (.invokevirtual 313, 3) := by decide +kernel
theorem dX9_wholeIfRight_35 : decode cX9_wholeIfRight 35 = .ok (.ireturn, 1) := by decide +kernel
theorem dX9_worstHole_0 : decode cX9_worstHole 0 = .ok (.aload_n 1, 1) := by decide +kernel
theorem dX9_worstHole_1 : decode cX9_worstHole 1 = .ok (.getfield 307, 3) := by decide +kernel
theorem dX9_worstHole_4 : decode cX9_worstHole 4 = .ok (.ifCond .ne 5, 3) := by decide +kernel
theorem dX9_worstHole_7 : decode cX9_worstHole 7 = .ok (.iconst (-1), 1) := by decide +kernel
theorem dX9_worstHole_8 : decode cX9_worstHole 8 = .ok (.ireturn, 1) := by decide +kernel
theorem dX9_worstHole_9 : decode cX9_worstHole 9 = .ok (.aload_n 1, 1) := by decide +kernel
theorem dX9_worstHole_10 : decode cX9_worstHole 10 = .ok (.iconst 0, 1) := by decide +kernel
theorem dX9_worstHole_11 : decode cX9_worstHole 11 = .ok (.aload_n 0, 1) := by decide +kernel
theorem dX9_worstHole_12 : decode cX9_worstHole 12 = .ok (.getfield 10, 3) := by decide +kernel
theorem dX9_worstHole_15 : decode cX9_worstHole 15 = .ok (.getfield 69, 3) := by decide +kernel
theorem dX9_worstHole_18 : decode cX9_worstHole 18 = .ok (.invokevirtual 313, 3) := by decide +kernel
theorem dX9_worstHole_21 : decode cX9_worstHole 21 = .ok (.istore_n 2, 1) := by decide +kernel
theorem dX9_worstHole_22 : decode cX9_worstHole 22 = .ok (.iconst (-1), 1) := by decide +kernel
theorem dX9_worstHole_23 : decode cX9_worstHole 23 = .ok (.istore_n 3, 1) := by decide +kernel
theorem dX9_worstHole_24 : decode cX9_worstHole 24 = .ok (.iconst (-1), 1) := by decide +kernel
theorem dX9_worstHole_25 : decode cX9_worstHole 25 = .ok (.istore 4, 2) := by decide +kernel
theorem dX9_worstHole_27 : decode cX9_worstHole 27 = .ok (.iconst 0, 1) := by decide +kernel
theorem dX9_worstHole_28 : decode cX9_worstHole 28 = .ok (.istore 5, 2) := by decide +kernel
theorem dX9_worstHole_30 : decode cX9_worstHole 30 = .ok (.iload 5, 2) := by decide +kernel
theorem dX9_worstHole_32 : decode cX9_worstHole 32 = .ok (.aload_n 0, 1) := by decide +kernel
theorem dX9_worstHole_33 : decode cX9_worstHole 33 = .ok (.getfield 10, 3) := by decide +kernel
theorem dX9_worstHole_36 : decode cX9_worstHole 36 = .ok (.getfield 69, 3) := by decide +kernel
theorem dX9_worstHole_39 : decode cX9_worstHole 39 = .ok (.if_icmp .ge 46, 3) := by decide +kernel
theorem dX9_worstHole_42 : decode cX9_worstHole 42 = .ok (.aload_n 0, 1) := by decide +kernel
theorem dX9_worstHole_43 : decode cX9_worstHole 43 = .ok (.iload 5, 2) := by decide +kernel
theorem dX9_worstHole_45 : decode cX9_worstHole 45 = .ok (.invokevirtual 248, 3) := by decide +kernel
theorem dX9_worstHole_48 : decode cX9_worstHole 48 = .ok (.istore 6, 2) := by decide +kernel
theorem dX9_worstHole_50 : decode cX9_worstHole 50 = .ok (.iload 6, 2) := by decide +kernel
theorem dX9_worstHole_52 : decode cX9_worstHole 52 = .ok (.iload_n 2, 1) := by decide +kernel
theorem dX9_worstHole_53 : decode cX9_worstHole 53 = .ok (.isub, 1) := by decide +kernel
theorem dX9_worstHole_54 : decode cX9_worstHole 54 = .ok (.invokestatic 351, 3) := by decide +kernel
theorem dX9_worstHole_57 : decode cX9_worstHole 57 = .ok (.istore 7, 2) := by decide +kernel
theorem dX9_worstHole_59 : decode cX9_worstHole 59 = .ok (.iload 6, 2) := by decide +kernel
theorem dX9_worstHole_61 : decode cX9_worstHole 61 = .ok (.iconst (-1), 1) := by decide +kernel
theorem dX9_worstHole_62 : decode cX9_worstHole 62 = .ok (.if_icmp .eq 17, 3) := by decide +kernel
theorem dX9_worstHole_65 : decode cX9_worstHole 65 = .ok (.iload 7, 2) := by decide +kernel
theorem dX9_worstHole_67 : decode cX9_worstHole 67 = .ok (.iload 4, 2) := by decide +kernel
theorem dX9_worstHole_69 : decode cX9_worstHole 69 = .ok (.if_icmp .le 10, 3) := by decide +kernel
theorem dX9_worstHole_72 : decode cX9_worstHole 72 = .ok (.iload 7, 2) := by decide +kernel
theorem dX9_worstHole_74 : decode cX9_worstHole 74 = .ok (.istore 4, 2) := by decide +kernel
theorem dX9_worstHole_76 : decode cX9_worstHole 76 = .ok (.iload 5, 2) := by decide +kernel
theorem dX9_worstHole_78 : decode cX9_worstHole 78 = .ok (.istore_n 3, 1) := by decide +kernel
theorem dX9_worstHole_79 : decode cX9_worstHole 79 = .ok (.iinc 5 1, 3) := by decide +kernel
theorem dX9_worstHole_82 : decode cX9_worstHole 82 = .ok (.goto (-52), 3) := by decide +kernel
theorem dX9_worstHole_85 : decode cX9_worstHole 85 = .ok (.iload_n 3, 1) := by decide +kernel
theorem dX9_worstHole_86 : decode cX9_worstHole 86 = .ok (.ireturn, 1) := by decide +kernel
theorem dX9_fewestHoles_0 : decode cX9_fewestHoles 0 = .ok (.aload_n 0, 1) := by decide +kernel
theorem dX9_fewestHoles_1 : decode cX9_fewestHoles 1 = .ok (.getfield 10, 3) := by decide +kernel
theorem dX9_fewestHoles_4 : decode cX9_fewestHoles 4 = .ok (.bipush 8, 2) := by decide +kernel
theorem dX9_fewestHoles_6 : decode cX9_fewestHoles 6 = .ok (.invokestatic 255, 3) := by decide +kernel
theorem dX9_fewestHoles_9 : decode cX9_fewestHoles 9 = .ok (.istore_n 2, 1) := by decide +kernel
theorem dX9_fewestHoles_10 : decode cX9_fewestHoles 10 = .ok (.iconst 2, 1) := by decide +kernel
theorem dX9_fewestHoles_11 : decode cX9_fewestHoles 11 = .ok (.istore_n 3, 1) := by decide +kernel
theorem dX9_fewestHoles_12 : decode cX9_fewestHoles 12 = .ok (.iload_n 3, 1) := by decide +kernel
theorem dX9_fewestHoles_13 : decode cX9_fewestHoles 13 = .ok (.bipush 8, 2) := by decide +kernel
theorem dX9_fewestHoles_15 : decode cX9_fewestHoles 15 = .ok (.if_icmp .ge 28, 3) := by decide +kernel
theorem dX9_fewestHoles_18 : decode cX9_fewestHoles 18 = .ok (.aload_n 0, 1) := by decide +kernel
theorem dX9_fewestHoles_19 : decode cX9_fewestHoles 19 = .ok (.getfield 10, 3) := by decide +kernel
theorem dX9_fewestHoles_22 : decode cX9_fewestHoles 22 = .ok (.iload_n 3, 1) := by decide +kernel
theorem dX9_fewestHoles_23 : decode cX9_fewestHoles 23 = .ok (.invokestatic 255, 3) := by decide +kernel
theorem dX9_fewestHoles_26 : decode cX9_fewestHoles 26 = .ok (.iload_n 2, 1) := by decide +kernel
theorem dX9_fewestHoles_27 : decode cX9_fewestHoles 27 = .ok (.isub, 1) := by decide +kernel
theorem dX9_fewestHoles_28 : decode cX9_fewestHoles 28 = .ok (.invokestatic 351, 3) := by decide +kernel
theorem dX9_fewestHoles_31 : decode cX9_fewestHoles 31 = .ok (.iload_n 1, 1) := by decide +kernel
theorem dX9_fewestHoles_32 : decode cX9_fewestHoles 32 = .ok (.if_icmp .gt 5, 3) := by decide +kernel
theorem dX9_fewestHoles_35 : decode cX9_fewestHoles 35 = .ok (.iload_n 3, 1) := by decide +kernel
theorem dX9_fewestHoles_36 : decode cX9_fewestHoles 36 = .ok (.ireturn, 1) := by decide +kernel
theorem dX9_fewestHoles_37 : decode cX9_fewestHoles 37 = .ok (.iinc 3 1, 3) := by decide +kernel
theorem dX9_fewestHoles_40 : decode cX9_fewestHoles 40 = .ok (.goto (-28), 3) := by decide +kernel
theorem dX9_fewestHoles_43 : decode cX9_fewestHoles 43 = .ok (.bipush 8, 2) := by decide +kernel
theorem dX9_fewestHoles_45 : decode cX9_fewestHoles 45 = .ok (.ireturn, 1) := by decide +kernel
theorem dX9_mixed_0 : decode cX9_mixed 0 = .ok (.ldc2_w 356, 3) := by decide +kernel
theorem dX9_mixed_3 : decode cX9_mixed 3 = .ok (.lload_n 0, 1) := by decide +kernel
theorem dX9_mixed_4 : decode cX9_mixed 4 = .ok (.lmul, 1) := by decide +kernel
theorem dX9_mixed_5 : decode cX9_mixed 5 = .ok (.lload_n 2, 1) := by decide +kernel
theorem dX9_mixed_6 : decode cX9_mixed 6 = .ok (.ladd, 1) := by decide +kernel
theorem dX9_mixed_7 : decode cX9_mixed 7 = .ok (.lreturn, 1) := by decide +kernel
theorem dX9_mixedWithHoles_0 : decode cX9_mixedWithHoles 0 = .ok (.lload_n 1, 1) := by decide +kernel
theorem dX9_mixedWithHoles_1 : decode cX9_mixedWithHoles 1 = .ok (.lstore 4, 2) := by decide +kernel
theorem dX9_mixedWithHoles_3 : decode cX9_mixedWithHoles 3 = .ok (.iconst 0, 1) := by decide +kernel
theorem dX9_mixedWithHoles_4 : decode cX9_mixedWithHoles 4 = .ok (.istore 6, 2) := by decide +kernel
theorem dX9_mixedWithHoles_6 : decode cX9_mixedWithHoles 6 = .ok (.iload 6, 2) := by decide +kernel
theorem dX9_mixedWithHoles_8 : decode cX9_mixedWithHoles 8 = .ok (.aload_n 0, 1) := by decide +kernel
theorem dX9_mixedWithHoles_9 : decode cX9_mixedWithHoles 9 = .ok (.getfield 10, 3) := by decide +kernel
theorem dX9_mixedWithHoles_12 : decode cX9_mixedWithHoles 12 = .ok (.getfield 69, 3) := by decide +kernel
theorem dX9_mixedWithHoles_15 : decode cX9_mixedWithHoles 15 = .ok (.if_icmp .ge 56, 3) := by decide +kernel
theorem dX9_mixedWithHoles_18 : decode cX9_mixedWithHoles 18 = .ok (.iconst 0, 1) := by decide +kernel
theorem dX9_mixedWithHoles_19 : decode cX9_mixedWithHoles 19 = .ok (.istore 7, 2) := by decide +kernel
theorem dX9_mixedWithHoles_21 : decode cX9_mixedWithHoles 21 = .ok (.iload 7, 2) := by decide +kernel
theorem dX9_mixedWithHoles_23 : decode cX9_mixedWithHoles 23 = .ok (.bipush 11, 2) := by decide +kernel
theorem dX9_mixedWithHoles_25 : decode cX9_mixedWithHoles 25 = .ok (.if_icmp .gt 26, 3) := by decide +kernel
theorem dX9_mixedWithHoles_28 : decode cX9_mixedWithHoles 28 = .ok (.lload 4, 2) := by decide +kernel
theorem dX9_mixedWithHoles_30 : decode cX9_mixedWithHoles 30 = .ok (.aload_n 0, 1) := by decide +kernel
theorem dX9_mixedWithHoles_31 : decode cX9_mixedWithHoles 31 = .ok (.iload 6, 2) := by decide +kernel
theorem dX9_mixedWithHoles_33 : decode cX9_mixedWithHoles 33 = .ok (.iload 7, 2) := by decide +kernel
theorem dX9_mixedWithHoles_35 : decode cX9_mixedWithHoles 35 = .ok (.aload_n 3, 1) := by decide +kernel
theorem dX9_mixedWithHoles_36 : decode cX9_mixedWithHoles 36 = .ok (.invokevirtual 227, 3) := by decide +kernel
theorem dX9_mixedWithHoles_39 : decode cX9_mixedWithHoles 39 = .ok (.i2l, 1) := by decide +kernel
theorem dX9_mixedWithHoles_40 : decode cX9_mixedWithHoles 40 = .ok (.invokestatic 270, 3) := by decide +kernel
theorem dX9_mixedWithHoles_43 : decode cX9_mixedWithHoles 43 = .ok (.lstore 4, 2) := by decide +kernel
theorem dX9_mixedWithHoles_45 : decode cX9_mixedWithHoles 45 = .ok (.iinc 7 1, 3) := by decide +kernel
theorem dX9_mixedWithHoles_48 : decode cX9_mixedWithHoles 48 = .ok (.goto (-27), 3) := by decide +kernel
theorem dX9_mixedWithHoles_51 : decode cX9_mixedWithHoles 51 = .ok (.lload 4, 2) := by decide +kernel
theorem dX9_mixedWithHoles_53 : decode cX9_mixedWithHoles 53 = .ok (.aload_n 0, 1) := by decide +kernel
theorem dX9_mixedWithHoles_54 : decode cX9_mixedWithHoles 54 = .ok (.iload 6, 2) := by decide +kernel
theorem dX9_mixedWithHoles_56 : decode cX9_mixedWithHoles 56 = .ok (.invokevirtual 248, 3) := by decide +kernel
theorem dX9_mixedWithHoles_59 : decode cX9_mixedWithHoles 59 = .ok (.i2l, 1) := by decide +kernel
theorem dX9_mixedWithHoles_60 : decode cX9_mixedWithHoles 60 = .ok (.invokestatic 270, 3) := by decide +kernel
theorem dX9_mixedWithHoles_63 : decode cX9_mixedWithHoles 63 = .ok (.lstore 4, 2) := by decide +kernel
theorem dX9_mixedWithHoles_65 : decode cX9_mixedWithHoles 65 = .ok (.iinc 6 1, 3) := by decide +kernel
theorem dX9_mixedWithHoles_68 : decode cX9_mixedWithHoles 68 = .ok (.goto (-62), 3) := by decide +kernel
theorem dX9_mixedWithHoles_71 : decode cX9_mixedWithHoles 71 = .ok (.lload 4, 2) := by decide +kernel
theorem dX9_mixedWithHoles_73 : decode cX9_mixedWithHoles 73 = .ok (.lreturn, 1) := by decide +kernel
theorem dX9_mixedWithReadings_0 : decode cX9_mixedWithReadings 0 = .ok (.lload_n 1, 1) := by decide +kernel
theorem dX9_mixedWithReadings_1 : decode cX9_mixedWithReadings 1 = .ok (.lstore_n 3, 1) := by decide +kernel
theorem dX9_mixedWithReadings_2 : decode cX9_mixedWithReadings 2 = .ok (.iconst 0, 1) := by decide +kernel
theorem dX9_mixedWithReadings_3 : decode cX9_mixedWithReadings 3 = .ok (.istore 5, 2) := by decide +kernel
theorem dX9_mixedWithReadings_5 : decode cX9_mixedWithReadings 5 = .ok (.iload 5, 2) := by decide +kernel
theorem dX9_mixedWithReadings_7 : decode cX9_mixedWithReadings 7 = .ok (.aload_n 0, 1) := by decide +kernel
theorem dX9_mixedWithReadings_8 : decode cX9_mixedWithReadings 8 = .ok (.getfield 10, 3) := by decide +kernel
theorem dX9_mixedWithReadings_11 : decode cX9_mixedWithReadings 11 = .ok (.getfield 141, 3) := by decide +kernel
theorem dX9_mixedWithReadings_14 : decode cX9_mixedWithReadings 14 = .ok (.getfield 145, 3) := by decide +kernel
theorem dX9_mixedWithReadings_17 : decode cX9_mixedWithReadings 17 = .ok (.if_icmp .ge 39, 3) := by decide +kernel
theorem dX9_mixedWithReadings_20 : decode cX9_mixedWithReadings 20 = .ok (.iconst 0, 1) := by decide +kernel
theorem dX9_mixedWithReadings_21 : decode cX9_mixedWithReadings 21 = .ok (.istore 6, 2) := by decide +kernel
theorem dX9_mixedWithReadings_23 : decode cX9_mixedWithReadings 23 = .ok (.iload 6, 2) := by decide +kernel
theorem dX9_mixedWithReadings_25 : decode cX9_mixedWithReadings 25 = .ok (.bipush 10, 2) := by decide +kernel
theorem dX9_mixedWithReadings_27 : decode cX9_mixedWithReadings 27 = .ok (.if_icmp .gt 23, 3) := by decide +kernel
theorem dX9_mixedWithReadings_30 : decode cX9_mixedWithReadings 30 = .ok (.lload_n 3, 1) := by decide +kernel
theorem dX9_mixedWithReadings_31 : decode cX9_mixedWithReadings 31 = .ok (.aload_n 0, 1) := by decide +kernel
theorem dX9_mixedWithReadings_32 : decode cX9_mixedWithReadings 32 = .ok (.iload 5, 2) := by decide +kernel
theorem dX9_mixedWithReadings_34 : decode cX9_mixedWithReadings 34 = .ok (.iload 6, 2) := by decide +kernel
theorem dX9_mixedWithReadings_36 : decode cX9_mixedWithReadings 36 = .ok (.invokevirtual 233, 3) := by decide +kernel
theorem dX9_mixedWithReadings_39 : decode cX9_mixedWithReadings 39 = .ok (.i2l, 1) := by decide +kernel
theorem dX9_mixedWithReadings_40 : decode cX9_mixedWithReadings 40 = .ok (.invokestatic 270, 3) := by decide +kernel
theorem dX9_mixedWithReadings_43 : decode cX9_mixedWithReadings 43 = .ok (.lstore_n 3, 1) := by decide +kernel
theorem dX9_mixedWithReadings_44 : decode cX9_mixedWithReadings 44 = .ok (.iinc 6 1, 3) := by decide +kernel
theorem dX9_mixedWithReadings_47 : decode cX9_mixedWithReadings 47 = .ok (.goto (-24), 3) := by decide +kernel
theorem dX9_mixedWithReadings_50 : decode cX9_mixedWithReadings 50 = .ok (.iinc 5 1, 3) := by decide +kernel
theorem dX9_mixedWithReadings_53 : decode cX9_mixedWithReadings 53 = .ok (.goto (-48), 3) := by decide +kernel
theorem dX9_mixedWithReadings_56 : decode cX9_mixedWithReadings 56 = .ok (.lload_n 3, 1) := by decide +kernel
theorem dX9_mixedWithReadings_57 : decode cX9_mixedWithReadings 57 = .ok (.lreturn, 1) := by decide +kernel
theorem dX9_mixedWithBuffer_0 : decode cX9_mixedWithBuffer 0 = .ok (.lload_n 1, 1) := by decide +kernel
theorem dX9_mixedWithBuffer_1 : decode cX9_mixedWithBuffer 1 = .ok (.aload_n 0, 1) := by decide +kernel
theorem dX9_mixedWithBuffer_2 : decode cX9_mixedWithBuffer 2 = .ok (.getfield 36, 3) := by decide +kernel
theorem dX9_mixedWithBuffer_5 : decode cX9_mixedWithBuffer 5 = .ok (.getfield 170, 3) := by decide +kernel
theorem dX9_mixedWithBuffer_8 : decode cX9_mixedWithBuffer 8 = .ok (.i2l, 1) := by decide +kernel
theorem dX9_mixedWithBuffer_9 : decode cX9_mixedWithBuffer 9 = .ok (.invokestatic 270, 3) := by decide +kernel
theorem dX9_mixedWithBuffer_12 : decode cX9_mixedWithBuffer 12 = .ok (.lstore_n 3, 1) := by decide +kernel
theorem dX9_mixedWithBuffer_13 : decode cX9_mixedWithBuffer 13 = .ok (.iconst 0, 1) := by decide +kernel
theorem dX9_mixedWithBuffer_14 : decode cX9_mixedWithBuffer 14 = .ok (.istore 5, 2) := by decide +kernel
theorem dX9_mixedWithBuffer_16 : decode cX9_mixedWithBuffer 16 = .ok (.iload 5, 2) := by decide +kernel
theorem dX9_mixedWithBuffer_18 : decode cX9_mixedWithBuffer 18 = .ok (.aload_n 0, 1) := by decide +kernel
theorem dX9_mixedWithBuffer_19 : decode cX9_mixedWithBuffer 19 = .ok (.getfield 36, 3) := by decide +kernel
theorem dX9_mixedWithBuffer_22 : decode cX9_mixedWithBuffer 22 = .ok (.getfield 170, 3) := by decide +kernel
theorem dX9_mixedWithBuffer_25 : decode cX9_mixedWithBuffer 25 = .ok (.if_icmp .ge 27, 3) := by decide +kernel
theorem dX9_mixedWithBuffer_28 : decode cX9_mixedWithBuffer 28 = .ok (.lload_n 3, 1) := by decide +kernel
theorem dX9_mixedWithBuffer_29 : decode cX9_mixedWithBuffer 29 = .ok (.aload_n 0, 1) := by decide +kernel
theorem dX9_mixedWithBuffer_30 : decode cX9_mixedWithBuffer 30 = .ok (.getfield 36, 3) := by decide +kernel
theorem dX9_mixedWithBuffer_33 : decode cX9_mixedWithBuffer 33 = .ok (.getfield 358, 3) := by decide +kernel
theorem dX9_mixedWithBuffer_36 : decode cX9_mixedWithBuffer 36 = .ok (.iload 5, 2) := by decide +kernel
theorem dX9_mixedWithBuffer_38 : decode cX9_mixedWithBuffer 38 = .ok (.invokestatic 95, 3) := by decide +kernel
theorem dX9_mixedWithBuffer_41 : decode cX9_mixedWithBuffer 41 = .ok (.i2l, 1) := by decide +kernel
theorem dX9_mixedWithBuffer_42 : decode cX9_mixedWithBuffer 42 = .ok (.invokestatic 270, 3) := by decide +kernel
theorem dX9_mixedWithBuffer_45 : decode cX9_mixedWithBuffer 45 = .ok (.lstore_n 3, 1) := by decide +kernel
theorem dX9_mixedWithBuffer_46 : decode cX9_mixedWithBuffer 46 = .ok (.iinc 5 1, 3) := by decide +kernel
theorem dX9_mixedWithBuffer_49 : decode cX9_mixedWithBuffer 49 = .ok (.goto (-33), 3) := by decide +kernel
theorem dX9_mixedWithBuffer_52 : decode cX9_mixedWithBuffer 52 = .ok (.lload_n 3, 1) := by decide +kernel
theorem dX9_mixedWithBuffer_53 : decode cX9_mixedWithBuffer 53 = .ok (.lreturn, 1) := by decide +kernel
theorem dX10_init_0 : decode cX10_init 0 = .ok (.aload_n 0, 1) := by decide +kernel
theorem dX10_init_1 : decode cX10_init 1 = .ok (.invokespecial 1, 3) := by decide +kernel
theorem dX10_init_4 : decode cX10_init 4 = .ok (.aload_n 0, 1) := by decide +kernel
theorem dX10_init_5 : decode cX10_init 5 = .ok (.sipush 162, 3) := by decide +kernel
theorem dX10_init_8 : decode cX10_init 8 = .ok (.newarray .int, 2) := by decide +kernel
theorem dX10_init_10 : decode cX10_init 10 = .ok (.putfield 7, 3) := by decide +kernel
theorem dX10_init_13 : decode cX10_init 13 = .ok (.aload_n 0, 1) := by decide +kernel
theorem dX10_init_14 : decode cX10_init 14 = .ok (.sipush 972, 3) := by decide +kernel
theorem dX10_init_17 : decode cX10_init 17 = .ok (.newarray .int, 2) := by decide +kernel
theorem dX10_init_19 : decode cX10_init 19 = .ok (.putfield 13, 3) := by decide +kernel
theorem dX10_init_22 : decode cX10_init 22 = .ok (.aload_n 0, 1) := by decide +kernel
theorem dX10_init_23 : decode cX10_init 23 = .ok (.sipush 324, 3) := by decide +kernel
theorem dX10_init_26 : decode cX10_init 26 = .ok (.newarray .int, 2) := by decide +kernel
theorem dX10_init_28 : decode cX10_init 28 = .ok (.putfield 16, 3) := by decide +kernel
theorem dX10_init_31 : decode cX10_init 31 = .ok (.aload_n 0, 1) := by decide +kernel
theorem dX10_init_32 : decode cX10_init 32 = .ok (.iconst 2, 1) := by decide +kernel
theorem dX10_init_33 : decode cX10_init 33 = .ok (.newarray .boolean, 2) := by decide +kernel
theorem dX10_init_35 : decode cX10_init 35 = .ok (.putfield 19, 3) := by decide +kernel
theorem dX10_init_38 : decode cX10_init 38 = .ok (.aload_n 0, 1) := by decide +kernel
theorem dX10_init_39 : decode cX10_init 39 = .ok (.bipush 50, 2) := by decide +kernel
theorem dX10_init_41 : decode cX10_init 41 = .ok (.newarray .int, 2) := by decide +kernel
theorem dX10_init_43 : decode cX10_init 43 = .ok (.putfield 23, 3) := by decide +kernel
theorem dX10_init_46 : decode cX10_init 46 = .ok (.aload_n 0, 1) := by decide +kernel
theorem dX10_init_47 : decode cX10_init 47 = .ok (.bipush 8, 2) := by decide +kernel
theorem dX10_init_49 : decode cX10_init 49 = .ok (.newarray .int, 2) := by decide +kernel
theorem dX10_init_51 : decode cX10_init 51 = .ok (.putfield 26, 3) := by decide +kernel
theorem dX10_init_54 : decode cX10_init 54 = .ok (.aload_n 0, 1) := by decide +kernel
theorem dX10_init_55 : decode cX10_init 55 = .ok (.bipush 8, 2) := by decide +kernel
theorem dX10_init_57 : decode cX10_init 57 = .ok (.newarray .int, 2) := by decide +kernel
theorem dX10_init_59 : decode cX10_init 59 = .ok (.putfield 29, 3) := by decide +kernel
theorem dX10_init_62 : decode cX10_init 62 = .ok (.aload_n 0, 1) := by decide +kernel
theorem dX10_init_63 : decode cX10_init 63 = .ok (.bipush 8, 2) := by decide +kernel
theorem dX10_init_65 : decode cX10_init 65 = .ok (.newarray .int, 2) := by decide +kernel
theorem dX10_init_67 : decode cX10_init 67 = .ok (.putfield 32, 3) := by decide +kernel
theorem dX10_init_70 : decode cX10_init 70 = .ok (.aload_n 0, 1) := by decide +kernel
theorem dX10_init_71 : decode cX10_init 71 = .ok (.bipush 8, 2) := by decide +kernel
theorem dX10_init_73 : decode cX10_init 73 = .ok (.newarray .int, 2) := by decide +kernel
theorem dX10_init_75 : decode cX10_init 75 = .ok (.putfield 35, 3) := by decide +kernel
theorem dX10_init_78 : decode cX10_init 78 = .ok (.aload_n 0, 1) := by decide +kernel
theorem dX10_init_79 : decode cX10_init 79 = .ok (.iconst 0, 1) := by decide +kernel
theorem dX10_init_80 : decode cX10_init 80 = .ok (.putfield 38, 3) := by decide +kernel
theorem dX10_init_83 : decode cX10_init 83 = .ok (.aload_n 0, 1) := by decide +kernel
theorem dX10_init_84 : decode cX10_init 84 = .ok (.getfield 7, 3) := by decide +kernel
theorem dX10_init_87 : decode cX10_init 87 = .ok (.iconst 0, 1) := by decide +kernel
theorem dX10_init_88 : decode cX10_init 88 = .ok (.sipush 8000, 3) := by decide +kernel
theorem dX10_init_91 : decode cX10_init 91 = .ok (.iastore, 1) := by decide +kernel
theorem dX10_init_92 : decode cX10_init 92 = .ok (.aload_n 0, 1) := by decide +kernel
theorem dX10_init_93 : decode cX10_init 93 = .ok (.getfield 7, 3) := by decide +kernel
theorem dX10_init_96 : decode cX10_init 96 = .ok (.iconst 1, 1) := by decide +kernel
theorem dX10_init_97 : decode cX10_init 97 = .ok (.bipush 40, 2) := by decide +kernel
theorem dX10_init_99 : decode cX10_init 99 = .ok (.iastore, 1) := by decide +kernel
theorem dX10_init_100 : decode cX10_init 100 = .ok (.aload_n 0, 1) := by decide +kernel
theorem dX10_init_101 : decode cX10_init 101 = .ok (.getfield 7, 3) := by decide +kernel
theorem dX10_init_104 : decode cX10_init 104 = .ok (.iconst 3, 1) := by decide +kernel
theorem dX10_init_105 : decode cX10_init 105 = .ok (.bipush 50, 2) := by decide +kernel
theorem dX10_init_107 : decode cX10_init 107 = .ok (.iastore, 1) := by decide +kernel
theorem dX10_init_108 : decode cX10_init 108 = .ok (.aload_n 0, 1) := by decide +kernel
theorem dX10_init_109 : decode cX10_init 109 = .ok (.getfield 7, 3) := by decide +kernel
theorem dX10_init_112 : decode cX10_init 112 = .ok (.iconst 4, 1) := by decide +kernel
theorem dX10_init_113 : decode cX10_init 113 = .ok (.iconst 5, 1) := by decide +kernel
theorem dX10_init_114 : decode cX10_init 114 = .ok (.iastore, 1) := by decide +kernel
theorem dX10_init_115 : decode cX10_init 115 = .ok (.aload_n 0, 1) := by decide +kernel
theorem dX10_init_116 : decode cX10_init 116 = .ok (.getfield 7, 3) := by decide +kernel
theorem dX10_init_119 : decode cX10_init 119 = .ok (.iconst 5, 1) := by decide +kernel
theorem dX10_init_120 : decode cX10_init 120 = .ok (.bipush 100, 2) := by decide +kernel
theorem dX10_init_122 : decode cX10_init 122 = .ok (.iastore, 1) := by decide +kernel
theorem dX10_init_123 : decode cX10_init 123 = .ok (.aload_n 0, 1) := by decide +kernel
theorem dX10_init_124 : decode cX10_init 124 = .ok (.getfield 7, 3) := by decide +kernel
theorem dX10_init_127 : decode cX10_init 127 = .ok (.bipush 6, 2) := by decide +kernel
theorem dX10_init_129 : decode cX10_init 129 = .ok (.iconst 4, 1) := by decide +kernel
theorem dX10_init_130 : decode cX10_init 130 = .ok (.iastore, 1) := by decide +kernel
theorem dX10_init_131 : decode cX10_init 131 = .ok (.aload_n 0, 1) := by decide +kernel
theorem dX10_init_132 : decode cX10_init 132 = .ok (.invokevirtual 42, 3) := by decide +kernel
theorem dX10_init_135 : decode cX10_init 135 = .ok (.return_, 1) := by decide +kernel
theorem dX10_thrown_0 : decode cX10_thrown 0 = .ok (.aload_n 0, 1) := by decide +kernel
theorem dX10_thrown_1 : decode cX10_thrown 1 = .ok (.getfield 38, 3) := by decide +kernel
theorem dX10_thrown_4 : decode cX10_thrown 4 = .ok (.ireturn, 1) := by decide +kernel
theorem dX10_in_0 : decode cX10_in 0 = .ok (.iload_n 0, 1) := by decide +kernel
theorem dX10_in_1 : decode cX10_in 1 = .ok (.iload_n 1, 1) := by decide +kernel
theorem dX10_in_2 : decode cX10_in 2 = .ok (.if_icmp .lt 12, 3) := by decide +kernel
theorem dX10_in_5 : decode cX10_in 5 = .ok (.iload_n 0, 1) := by decide +kernel
theorem dX10_in_6 : decode cX10_in 6 = .ok (.iload_n 2, 1) := by decide +kernel
theorem dX10_in_7 : decode cX10_in 7 = .ok (.if_icmp .gt 7, 3) := by decide +kernel
theorem dX10_in_10 : decode cX10_in 10 = .ok (.iconst 1, 1) := by decide +kernel
theorem dX10_in_11 : decode cX10_in 11 = .ok (.goto 4, 3) := by decide +kernel
theorem dX10_in_14 : decode cX10_in 14 = .ok (.iconst 0, 1) := by decide +kernel
theorem dX10_in_15 : decode cX10_in 15 = .ok (.ireturn, 1) := by decide +kernel
theorem dX10_fails_0 : decode cX10_fails 0 = .ok (.aload_n 0, 1) := by decide +kernel
theorem dX10_fails_1 : decode cX10_fails 1 = .ok (.iload_n 1, 1) := by decide +kernel
theorem dX10_fails_2 : decode cX10_fails 2 = .ok (.putfield 38, 3) := by decide +kernel
theorem dX10_fails_5 : decode cX10_fails 5 = .ok (.iconst 0, 1) := by decide +kernel
theorem dX10_fails_6 : decode cX10_fails 6 = .ok (.ireturn, 1) := by decide +kernel
theorem dX10_of_0 : decode cX10_of 0 = .ok (.aload_n 0, 1) := by decide +kernel
theorem dX10_of_1 : decode cX10_of 1 = .ok (.getfield 7, 3) := by decide +kernel
theorem dX10_of_4 : decode cX10_of 4 = .ok (.bipush 10, 2) := by decide +kernel
theorem dX10_of_6 : decode cX10_of 6 = .ok (.iconst 4, 1) := by decide +kernel
theorem dX10_of_7 : decode cX10_of 7 = .ok (.iload_n 1, 1) := by decide +kernel
theorem dX10_of_8 : decode cX10_of 8 = .ok (.imul, 1) := by decide +kernel
theorem dX10_of_9 : decode cX10_of 9 = .ok (.iadd, 1) := by decide +kernel
theorem dX10_of_10 : decode cX10_of 10 = .ok (.iload_n 2, 1) := by decide +kernel
theorem dX10_of_11 : decode cX10_of 11 = .ok (.iadd, 1) := by decide +kernel
theorem dX10_of_12 : decode cX10_of 12 = .ok (.iaload, 1) := by decide +kernel
theorem dX10_of_13 : decode cX10_of 13 = .ok (.ireturn, 1) := by decide +kernel
theorem dX10_lay_0 : decode cX10_lay 0 = .ok (.aload_n 0, 1) := by decide +kernel
theorem dX10_lay_1 : decode cX10_lay 1 = .ok (.getfield 7, 3) := by decide +kernel
theorem dX10_lay_4 : decode cX10_lay 4 = .ok (.bipush 10, 2) := by decide +kernel
theorem dX10_lay_6 : decode cX10_lay 6 = .ok (.iconst 4, 1) := by decide +kernel
theorem dX10_lay_7 : decode cX10_lay 7 = .ok (.iload_n 1, 1) := by decide +kernel
theorem dX10_lay_8 : decode cX10_lay 8 = .ok (.imul, 1) := by decide +kernel
theorem dX10_lay_9 : decode cX10_lay 9 = .ok (.iadd, 1) := by decide +kernel
theorem dX10_lay_10 : decode cX10_lay 10 = .ok (.iload_n 2, 1) := by decide +kernel
theorem dX10_lay_11 : decode cX10_lay 11 = .ok (.iadd, 1) := by decide +kernel
theorem dX10_lay_12 : decode cX10_lay 12 = .ok (.iload_n 3, 1) := by decide +kernel
theorem dX10_lay_13 : decode cX10_lay 13 = .ok (.iastore, 1) := by decide +kernel
theorem dX10_lay_14 : decode cX10_lay 14 = .ok (.return_, 1) := by decide +kernel
theorem dX10_ofReading_0 : decode cX10_ofReading 0 = .ok (.aload_n 0, 1) := by decide +kernel
theorem dX10_ofReading_1 : decode cX10_ofReading 1 = .ok (.getfield 7, 3) := by decide +kernel
theorem dX10_ofReading_4 : decode cX10_ofReading 4 = .ok (.bipush 42, 2) := by decide +kernel
theorem dX10_ofReading_6 : decode cX10_ofReading 6 = .ok (.bipush 10, 2) := by decide +kernel
theorem dX10_ofReading_8 : decode cX10_ofReading 8 = .ok (.iload_n 1, 1) := by decide +kernel
theorem dX10_ofReading_9 : decode cX10_ofReading 9 = .ok (.imul, 1) := by decide +kernel
theorem dX10_ofReading_10 : decode cX10_ofReading 10 = .ok (.iadd, 1) := by decide +kernel
theorem dX10_ofReading_11 : decode cX10_ofReading 11 = .ok (.iload_n 2, 1) := by decide +kernel
theorem dX10_ofReading_12 : decode cX10_ofReading 12 = .ok (.iadd, 1) := by decide +kernel
theorem dX10_ofReading_13 : decode cX10_ofReading 13 = .ok (.iaload, 1) := by decide +kernel
theorem dX10_ofReading_14 : decode cX10_ofReading 14 = .ok (.ireturn, 1) := by decide +kernel
theorem dX10_isHole_0 : decode cX10_isHole 0 = .ok (.iload_n 1, 1) := by decide +kernel
theorem dX10_isHole_1 : decode cX10_isHole 1 = .ok (.iconst 0, 1) := by decide +kernel
theorem dX10_isHole_2 : decode cX10_isHole 2 = .ok (.aload_n 0, 1) := by decide +kernel
theorem dX10_isHole_3 : decode cX10_isHole 3 = .ok (.getfield 7, 3) := by decide +kernel
theorem dX10_isHole_6 : decode cX10_isHole 6 = .ok (.bipush 6, 2) := by decide +kernel
theorem dX10_isHole_8 : decode cX10_isHole 8 = .ok (.iaload, 1) := by decide +kernel
theorem dX10_isHole_9 : decode cX10_isHole 9 = .ok (.iconst 1, 1) := by decide +kernel
theorem dX10_isHole_10 : decode cX10_isHole 10 = .ok (.isub, 1) := by decide +kernel
theorem dX10_isHole_11 : decode cX10_isHole 11 = .ok (.invokestatic 45, 3) := by decide +kernel
theorem dX10_isHole_14 : decode cX10_isHole 14 = .ok (.ireturn, 1) := by decide +kernel
theorem dX10_clearsHoles_0 : decode cX10_clearsHoles 0 = .ok (.iconst 0, 1) := by decide +kernel
theorem dX10_clearsHoles_1 : decode cX10_clearsHoles 1 = .ok (.istore_n 1, 1) := by decide +kernel
theorem dX10_clearsHoles_2 : decode cX10_clearsHoles 2 = .ok (.iload_n 1, 1) := by decide +kernel
theorem dX10_clearsHoles_3 : decode cX10_clearsHoles 3 = .ok (.bipush 8, 2) := by decide +kernel
theorem dX10_clearsHoles_5 : decode cX10_clearsHoles 5 = .ok (.if_icmp .ge 38, 3) := by decide +kernel
theorem dX10_clearsHoles_8 : decode cX10_clearsHoles 8 = .ok (.aload_n 0, 1) := by decide +kernel
theorem dX10_clearsHoles_9 : decode cX10_clearsHoles 9 = .ok (.iload_n 1, 1) := by decide +kernel
theorem dX10_clearsHoles_10 : decode cX10_clearsHoles 10 = .ok (.iconst 0, 1) := by decide +kernel
theorem dX10_clearsHoles_11 : decode cX10_clearsHoles 11 = .ok (.bipush 100, 2) := by decide +kernel
theorem dX10_clearsHoles_13 : decode cX10_clearsHoles 13 = .ok (.invokevirtual 49, 3) := by decide +kernel
theorem dX10_clearsHoles_16 : decode cX10_clearsHoles 16 = .ok (.aload_n 0, 1) := by decide +kernel
theorem dX10_clearsHoles_17 : decode cX10_clearsHoles 17 = .ok (.iload_n 1, 1) := by decide +kernel
theorem dX10_clearsHoles_18 : decode cX10_clearsHoles 18 = .ok (.iconst 1, 1) := by decide +kernel
theorem dX10_clearsHoles_19 : decode cX10_clearsHoles 19 = .ok (.iconst 0, 1) := by decide +kernel
theorem dX10_clearsHoles_20 : decode cX10_clearsHoles 20 = .ok (.invokevirtual 49, 3) := by decide +kernel
theorem dX10_clearsHoles_23 : decode cX10_clearsHoles 23 = .ok (.aload_n 0, 1) := by decide +kernel
theorem dX10_clearsHoles_24 : decode cX10_clearsHoles 24 = .ok (.iload_n 1, 1) := by decide +kernel
theorem dX10_clearsHoles_25 : decode cX10_clearsHoles 25 = .ok (.iconst 2, 1) := by decide +kernel
theorem dX10_clearsHoles_26 : decode cX10_clearsHoles 26 = .ok (.iconst 0, 1) := by decide +kernel
theorem dX10_clearsHoles_27 : decode cX10_clearsHoles 27 = .ok (.invokevirtual 49, 3) := by decide +kernel
theorem dX10_clearsHoles_30 : decode cX10_clearsHoles 30 = .ok (.aload_n 0, 1) := by decide +kernel
theorem dX10_clearsHoles_31 : decode cX10_clearsHoles 31 = .ok (.iload_n 1, 1) := by decide +kernel
theorem dX10_clearsHoles_32 : decode cX10_clearsHoles 32 = .ok (.iconst 3, 1) := by decide +kernel
theorem dX10_clearsHoles_33 : decode cX10_clearsHoles 33 = .ok (.iconst 0, 1) := by decide +kernel
theorem dX10_clearsHoles_34 : decode cX10_clearsHoles 34 = .ok (.invokevirtual 49, 3) := by decide +kernel
theorem dX10_clearsHoles_37 : decode cX10_clearsHoles 37 = .ok (.iinc 1 1, 3) := by decide +kernel
theorem dX10_clearsHoles_40 : decode cX10_clearsHoles 40 = .ok (.goto (-38), 3) := by decide +kernel
theorem dX10_clearsHoles_43 : decode cX10_clearsHoles 43 = .ok (.return_, 1) := by decide +kernel
theorem dX10_saves_0 : decode cX10_saves 0 = .ok (.aload_n 0, 1) := by decide +kernel
theorem dX10_saves_1 : decode cX10_saves 1 = .ok (.getfield 53, 3) := by decide +kernel
theorem dX10_saves_4 : decode cX10_saves 4 = .ok (.bipush 6, 2) := by decide +kernel
theorem dX10_saves_6 : decode cX10_saves 6 = .ok (.if_icmp .ne 44, 3) := by decide +kernel
theorem dX10_saves_9 : decode cX10_saves 9 = .ok (.iconst 0, 1) := by decide +kernel
theorem dX10_saves_10 : decode cX10_saves 10 = .ok (.istore_n 1, 1) := by decide +kernel
theorem dX10_saves_11 : decode cX10_saves 11 = .ok (.iload_n 1, 1) := by decide +kernel
theorem dX10_saves_12 : decode cX10_saves 12 = .ok (.sipush 810, 3) := by decide +kernel
theorem dX10_saves_15 : decode cX10_saves 15 = .ok (.if_icmp .ge 25, 3) := by decide +kernel
theorem dX10_saves_18 : decode cX10_saves 18 = .ok (.aload_n 0, 1) := by decide +kernel
theorem dX10_saves_19 : decode cX10_saves 19 = .ok (.getfield 13, 3) := by decide +kernel
theorem dX10_saves_22 : decode cX10_saves 22 = .ok (.iload_n 1, 1) := by decide +kernel
theorem dX10_saves_23 : decode cX10_saves 23 = .ok (.aload_n 0, 1) := by decide +kernel
theorem dX10_saves_24 : decode cX10_saves 24 = .ok (.getfield 13, 3) := by decide +kernel
theorem dX10_saves_27 : decode cX10_saves 27 = .ok (.iload_n 1, 1) := by decide +kernel
theorem dX10_saves_28 : decode cX10_saves 28 = .ok (.sipush 162, 3) := by decide +kernel
theorem dX10_saves_31 : decode cX10_saves 31 = .ok (.iadd, 1) := by decide +kernel
theorem dX10_saves_32 : decode cX10_saves 32 = .ok (.iaload, 1) := by decide +kernel
theorem dX10_saves_33 : decode cX10_saves 33 = .ok (.iastore, 1) := by decide +kernel
theorem dX10_saves_34 : decode cX10_saves 34 = .ok (.iinc 1 1, 3) := by decide +kernel
theorem dX10_saves_37 : decode cX10_saves 37 = .ok (.goto (-26), 3) := by decide +kernel
theorem dX10_saves_40 : decode cX10_saves 40 = .ok (.aload_n 0, 1) := by decide +kernel
theorem dX10_saves_41 : decode cX10_saves 41 = .ok (.dup, 1) := by decide +kernel
theorem dX10_saves_42 : decode cX10_saves 42 = .ok (.getfield 53, 3) := by decide +kernel
theorem dX10_saves_45 : decode cX10_saves 45 = .ok (.iconst 1, 1) := by decide +kernel
theorem dX10_saves_46 : decode cX10_saves 46 = .ok (.isub, 1) := by decide +kernel
theorem dX10_saves_47 : decode cX10_saves 47 = .ok (.putfield 53, 3) := by decide +kernel
theorem dX10_saves_50 : decode cX10_saves 50 = .ok (.iconst 0, 1) := by decide +kernel
theorem dX10_saves_51 : decode cX10_saves 51 = .ok (.istore_n 1, 1) := by decide +kernel
theorem dX10_saves_52 : decode cX10_saves 52 = .ok (.iload_n 1, 1) := by decide +kernel
theorem dX10_saves_53 : decode cX10_saves 53 = .ok (.sipush 162, 3) := by decide +kernel
theorem dX10_saves_56 : decode cX10_saves 56 = .ok (.if_icmp .ge 30, 3) := by decide +kernel
theorem dX10_saves_59 : decode cX10_saves 59 = .ok (.aload_n 0, 1) := by decide +kernel
theorem dX10_saves_60 : decode cX10_saves 60 = .ok (.getfield 13, 3) := by decide +kernel
theorem dX10_saves_63 : decode cX10_saves 63 = .ok (.sipush 162, 3) := by decide +kernel
theorem dX10_saves_66 : decode cX10_saves 66 = .ok (.aload_n 0, 1) := by decide +kernel
theorem dX10_saves_67 : decode cX10_saves 67 = .ok (.getfield 53, 3) := by decide +kernel
theorem dX10_saves_70 : decode cX10_saves 70 = .ok (.imul, 1) := by decide +kernel
theorem dX10_saves_71 : decode cX10_saves 71 = .ok (.iload_n 1, 1) := by decide +kernel
theorem dX10_saves_72 : decode cX10_saves 72 = .ok (.iadd, 1) := by decide +kernel
theorem dX10_saves_73 : decode cX10_saves 73 = .ok (.aload_n 0, 1) := by decide +kernel
theorem dX10_saves_74 : decode cX10_saves 74 = .ok (.getfield 7, 3) := by decide +kernel
theorem dX10_saves_77 : decode cX10_saves 77 = .ok (.iload_n 1, 1) := by decide +kernel
theorem dX10_saves_78 : decode cX10_saves 78 = .ok (.iaload, 1) := by decide +kernel
theorem dX10_saves_79 : decode cX10_saves 79 = .ok (.iastore, 1) := by decide +kernel
theorem dX10_saves_80 : decode cX10_saves 80 = .ok (.iinc 1 1, 3) := by decide +kernel
theorem dX10_saves_83 : decode cX10_saves 83 = .ok (.goto (-31), 3) := by decide +kernel
theorem dX10_saves_86 : decode cX10_saves 86 = .ok (.aload_n 0, 1) := by decide +kernel
theorem dX10_saves_87 : decode cX10_saves 87 = .ok (.dup, 1) := by decide +kernel
theorem dX10_saves_88 : decode cX10_saves 88 = .ok (.getfield 53, 3) := by decide +kernel
theorem dX10_saves_91 : decode cX10_saves 91 = .ok (.iconst 1, 1) := by decide +kernel
theorem dX10_saves_92 : decode cX10_saves 92 = .ok (.iadd, 1) := by decide +kernel
theorem dX10_saves_93 : decode cX10_saves 93 = .ok (.putfield 53, 3) := by decide +kernel
theorem dX10_saves_96 : decode cX10_saves 96 = .ok (.return_, 1) := by decide +kernel
theorem dX10_root_0 : decode cX10_root 0 = .ok (.iconst 0, 1) := by decide +kernel
theorem dX10_root_1 : decode cX10_root 1 = .ok (.istore_n 1, 1) := by decide +kernel
theorem dX10_root_2 : decode cX10_root 2 = .ok (.ldc 56, 2) := by decide +kernel
theorem dX10_root_4 : decode cX10_root 4 = .ok (.istore_n 2, 1) := by decide +kernel
theorem dX10_root_5 : decode cX10_root 5 = .ok (.iload_n 1, 1) := by decide +kernel
theorem dX10_root_6 : decode cX10_root 6 = .ok (.iload_n 2, 1) := by decide +kernel
theorem dX10_root_7 : decode cX10_root 7 = .ok (.if_icmp .ge 52, 3) := by decide +kernel
theorem dX10_root_10 : decode cX10_root 10 = .ok (.iload_n 1, 1) := by decide +kernel
theorem dX10_root_11 : decode cX10_root 11 = .ok (.iload_n 2, 1) := by decide +kernel
theorem dX10_root_12 : decode cX10_root 12 = .ok (.iadd, 1) := by decide +kernel
theorem dX10_root_13 : decode cX10_root 13 = .ok (.iconst 1, 1) := by decide +kernel
theorem dX10_root_14 : decode cX10_root 14 = .ok (.iadd, 1) := by decide +kernel
theorem dX10_root_15 : decode cX10_root 15 = .ok (.iconst 2, 1) := by decide +kernel
theorem dX10_root_16 : decode cX10_root 16 = .ok (.idiv, 1) := by decide +kernel
theorem dX10_root_17 : decode cX10_root 17 = .ok (.istore_n 3, 1) := by decide +kernel
theorem dX10_root_18 : decode cX10_root 18 = .ok (.iload_n 3, 1) := by decide +kernel
theorem dX10_root_19 : decode cX10_root 19 = .ok (.iload_n 3, 1) := by decide +kernel
theorem dX10_root_20 : decode cX10_root 20 = .ok (.imul, 1) := by decide +kernel
theorem dX10_root_21 : decode cX10_root 21 = .ok (.iload_n 0, 1) := by decide +kernel
theorem dX10_root_22 : decode cX10_root 22 = .ok (.if_icmp .gt 7, 3) := by decide +kernel
theorem dX10_root_25 : decode cX10_root 25 = .ok (.iconst 1, 1) := by decide +kernel
theorem dX10_root_26 : decode cX10_root 26 = .ok (.goto 4, 3) := by decide +kernel
theorem dX10_root_29 : decode cX10_root 29 = .ok (.iconst 0, 1) := by decide +kernel
theorem dX10_root_30 : decode cX10_root 30 = .ok (.istore 4, 2) := by decide +kernel
theorem dX10_root_32 : decode cX10_root 32 = .ok (.iload 4, 2) := by decide +kernel
theorem dX10_root_34 : decode cX10_root 34 = .ok (.ifCond .eq 7, 3) := by decide +kernel
theorem dX10_root_37 : decode cX10_root 37 = .ok (.iload_n 3, 1) := by decide +kernel
theorem dX10_root_38 : decode cX10_root 38 = .ok (.goto 4, 3) := by decide +kernel
theorem dX10_root_41 : decode cX10_root 41 = .ok (.iload_n 1, 1) := by decide +kernel
theorem dX10_root_42 : decode cX10_root 42 = .ok (.istore_n 1, 1) := by decide +kernel
theorem dX10_root_43 : decode cX10_root 43 = .ok (.iload 4, 2) := by decide +kernel
theorem dX10_root_45 : decode cX10_root 45 = .ok (.ifCond .eq 7, 3) := by decide +kernel
theorem dX10_root_48 : decode cX10_root 48 = .ok (.iload_n 2, 1) := by decide +kernel
theorem dX10_root_49 : decode cX10_root 49 = .ok (.goto 6, 3) := by decide +kernel
theorem dX10_root_52 : decode cX10_root 52 = .ok (.iload_n 3, 1) := by decide +kernel
theorem dX10_root_53 : decode cX10_root 53 = .ok (.iconst 1, 1) := by decide +kernel
theorem dX10_root_54 : decode cX10_root 54 = .ok (.isub, 1) := by decide +kernel
theorem dX10_root_55 : decode cX10_root 55 = .ok (.istore_n 2, 1) := by decide +kernel
theorem dX10_root_56 : decode cX10_root 56 = .ok (.goto (-51), 3) := by decide +kernel
theorem dX10_root_59 : decode cX10_root 59 = .ok (.iload_n 1, 1) := by decide +kernel
theorem dX10_root_60 : decode cX10_root 60 = .ok (.ireturn, 1) := by decide +kernel
theorem dX10_distance_0 : decode cX10_distance 0 = .ok (.aload_n 0, 1) := by decide +kernel
theorem dX10_distance_1 : decode cX10_distance 1 = .ok (.getfield 7, 3) := by decide +kernel
theorem dX10_distance_4 : decode cX10_distance 4 = .ok (.iconst 5, 1) := by decide +kernel
theorem dX10_distance_5 : decode cX10_distance 5 = .ok (.iaload, 1) := by decide +kernel
theorem dX10_distance_6 : decode cX10_distance 6 = .ok (.aload_n 0, 1) := by decide +kernel
theorem dX10_distance_7 : decode cX10_distance 7 = .ok (.getfield 7, 3) := by decide +kernel
theorem dX10_distance_10 : decode cX10_distance 10 = .ok (.iconst 5, 1) := by decide +kernel
theorem dX10_distance_11 : decode cX10_distance 11 = .ok (.iaload, 1) := by decide +kernel
theorem dX10_distance_12 : decode cX10_distance 12 = .ok (.imul, 1) := by decide +kernel
theorem dX10_distance_13 : decode cX10_distance 13 = .ok (.iconst 2, 1) := by decide +kernel
theorem dX10_distance_14 : decode cX10_distance 14 = .ok (.iload_n 1, 1) := by decide +kernel
theorem dX10_distance_15 : decode cX10_distance 15 = .ok (.imul, 1) := by decide +kernel
theorem dX10_distance_16 : decode cX10_distance 16 = .ok (.iconst 1, 1) := by decide +kernel
theorem dX10_distance_17 : decode cX10_distance 17 = .ok (.iadd, 1) := by decide +kernel
theorem dX10_distance_18 : decode cX10_distance 18 = .ok (.imul, 1) := by decide +kernel
theorem dX10_distance_19 : decode cX10_distance 19 = .ok (.iconst 2, 1) := by decide +kernel
theorem dX10_distance_20 : decode cX10_distance 20 = .ok (.iload_n 2, 1) := by decide +kernel
theorem dX10_distance_21 : decode cX10_distance 21 = .ok (.imul, 1) := by decide +kernel
theorem dX10_distance_22 : decode cX10_distance 22 = .ok (.idiv, 1) := by decide +kernel
theorem dX10_distance_23 : decode cX10_distance 23 = .ok (.invokestatic 57, 3) := by decide +kernel
theorem dX10_distance_26 : decode cX10_distance 26 = .ok (.ireturn, 1) := by decide +kernel
theorem dX10_trueSpeed_0 : decode cX10_trueSpeed 0 = .ok (.aload_n 0, 1) := by decide +kernel
theorem dX10_trueSpeed_1 : decode cX10_trueSpeed 1 = .ok (.iload_n 1, 1) := by decide +kernel
theorem dX10_trueSpeed_2 : decode cX10_trueSpeed 2 = .ok (.iload_n 2, 1) := by decide +kernel
theorem dX10_trueSpeed_3 : decode cX10_trueSpeed 3 = .ok (.invokevirtual 61, 3) := by decide +kernel
theorem dX10_trueSpeed_6 : decode cX10_trueSpeed 6 = .ok (.istore_n 3, 1) := by decide +kernel
theorem dX10_trueSpeed_7 : decode cX10_trueSpeed 7 = .ok (.aload_n 0, 1) := by decide +kernel
theorem dX10_trueSpeed_8 : decode cX10_trueSpeed 8 = .ok (.getfield 7, 3) := by decide +kernel
theorem dX10_trueSpeed_11 : decode cX10_trueSpeed 11 = .ok (.iconst 0, 1) := by decide +kernel
theorem dX10_trueSpeed_12 : decode cX10_trueSpeed 12 = .ok (.iaload, 1) := by decide +kernel
theorem dX10_trueSpeed_13 : decode cX10_trueSpeed 13 = .ok (.aload_n 0, 1) := by decide +kernel
theorem dX10_trueSpeed_14 : decode cX10_trueSpeed 14 = .ok (.getfield 7, 3) := by decide +kernel
theorem dX10_trueSpeed_17 : decode cX10_trueSpeed 17 = .ok (.iconst 0, 1) := by decide +kernel
theorem dX10_trueSpeed_18 : decode cX10_trueSpeed 18 = .ok (.iaload, 1) := by decide +kernel
theorem dX10_trueSpeed_19 : decode cX10_trueSpeed 19 = .ok (.aload_n 0, 1) := by decide +kernel
theorem dX10_trueSpeed_20 : decode cX10_trueSpeed 20 = .ok (.getfield 7, 3) := by decide +kernel
theorem dX10_trueSpeed_23 : decode cX10_trueSpeed 23 = .ok (.iconst 1, 1) := by decide +kernel
theorem dX10_trueSpeed_24 : decode cX10_trueSpeed 24 = .ok (.iaload, 1) := by decide +kernel
theorem dX10_trueSpeed_25 : decode cX10_trueSpeed 25 = .ok (.imul, 1) := by decide +kernel
theorem dX10_trueSpeed_26 : decode cX10_trueSpeed 26 = .ok (.iload_n 3, 1) := by decide +kernel
theorem dX10_trueSpeed_27 : decode cX10_trueSpeed 27 = .ok (.imul, 1) := by decide +kernel
theorem dX10_trueSpeed_28 : decode cX10_trueSpeed 28 = .ok (.bipush 100, 2) := by decide +kernel
theorem dX10_trueSpeed_30 : decode cX10_trueSpeed 30 = .ok (.aload_n 0, 1) := by decide +kernel
theorem dX10_trueSpeed_31 : decode cX10_trueSpeed 31 = .ok (.getfield 7, 3) := by decide +kernel
theorem dX10_trueSpeed_34 : decode cX10_trueSpeed 34 = .ok (.iconst 5, 1) := by decide +kernel
theorem dX10_trueSpeed_35 : decode cX10_trueSpeed 35 = .ok (.iaload, 1) := by decide +kernel
theorem dX10_trueSpeed_36 : decode cX10_trueSpeed 36 = .ok (.imul, 1) := by decide +kernel
theorem dX10_trueSpeed_37 : decode cX10_trueSpeed 37 = .ok (.idiv, 1) := by decide +kernel
theorem dX10_trueSpeed_38 : decode cX10_trueSpeed 38 = .ok (.isub, 1) := by decide +kernel
theorem dX10_trueSpeed_39 : decode cX10_trueSpeed 39 = .ok (.aload_n 0, 1) := by decide +kernel
theorem dX10_trueSpeed_40 : decode cX10_trueSpeed 40 = .ok (.getfield 7, 3) := by decide +kernel
theorem dX10_trueSpeed_43 : decode cX10_trueSpeed 43 = .ok (.iconst 2, 1) := by decide +kernel
theorem dX10_trueSpeed_44 : decode cX10_trueSpeed 44 = .ok (.iaload, 1) := by decide +kernel
theorem dX10_trueSpeed_45 : decode cX10_trueSpeed 45 = .ok (.iload_n 3, 1) := by decide +kernel
theorem dX10_trueSpeed_46 : decode cX10_trueSpeed 46 = .ok (.imul, 1) := by decide +kernel
theorem dX10_trueSpeed_47 : decode cX10_trueSpeed 47 = .ok (.aload_n 0, 1) := by decide +kernel
theorem dX10_trueSpeed_48 : decode cX10_trueSpeed 48 = .ok (.getfield 7, 3) := by decide +kernel
theorem dX10_trueSpeed_51 : decode cX10_trueSpeed 51 = .ok (.iconst 5, 1) := by decide +kernel
theorem dX10_trueSpeed_52 : decode cX10_trueSpeed 52 = .ok (.iaload, 1) := by decide +kernel
theorem dX10_trueSpeed_53 : decode cX10_trueSpeed 53 = .ok (.idiv, 1) := by decide +kernel
theorem dX10_trueSpeed_54 : decode cX10_trueSpeed 54 = .ok (.iadd, 1) := by decide +kernel
theorem dX10_trueSpeed_55 : decode cX10_trueSpeed 55 = .ok (.ireturn, 1) := by decide +kernel
theorem dX10_trueHead_0 : decode cX10_trueHead 0 = .ok (.aload_n 0, 1) := by decide +kernel
theorem dX10_trueHead_1 : decode cX10_trueHead 1 = .ok (.iload_n 1, 1) := by decide +kernel
theorem dX10_trueHead_2 : decode cX10_trueHead 2 = .ok (.aload_n 0, 1) := by decide +kernel
theorem dX10_trueHead_3 : decode cX10_trueHead 3 = .ok (.getfield 7, 3) := by decide +kernel
theorem dX10_trueHead_6 : decode cX10_trueHead 6 = .ok (.bipush 6, 2) := by decide +kernel
theorem dX10_trueHead_8 : decode cX10_trueHead 8 = .ok (.iaload, 1) := by decide +kernel
theorem dX10_trueHead_9 : decode cX10_trueHead 9 = .ok (.invokevirtual 65, 3) := by decide +kernel
theorem dX10_trueHead_12 : decode cX10_trueHead 12 = .ok (.istore_n 2, 1) := by decide +kernel
theorem dX10_trueHead_13 : decode cX10_trueHead 13 = .ok (.iload_n 2, 1) := by decide +kernel
theorem dX10_trueHead_14 : decode cX10_trueHead 14 = .ok (.iload_n 2, 1) := by decide +kernel
theorem dX10_trueHead_15 : decode cX10_trueHead 15 = .ok (.imul, 1) := by decide +kernel
theorem dX10_trueHead_16 : decode cX10_trueHead 16 = .ok (.sipush 10000, 3) := by decide +kernel
theorem dX10_trueHead_19 : decode cX10_trueHead 19 = .ok (.idiv, 1) := by decide +kernel
theorem dX10_trueHead_20 : decode cX10_trueHead 20 = .ok (.ireturn, 1) := by decide +kernel
theorem dX10_felt_0 : decode cX10_felt 0 = .ok (.aload_n 0, 1) := by decide +kernel
theorem dX10_felt_1 : decode cX10_felt 1 = .ok (.iload_n 1, 1) := by decide +kernel
theorem dX10_felt_2 : decode cX10_felt 2 = .ok (.invokevirtual 68, 3) := by decide +kernel
theorem dX10_felt_5 : decode cX10_felt 5 = .ok (.aload_n 0, 1) := by decide +kernel
theorem dX10_felt_6 : decode cX10_felt 6 = .ok (.iload_n 1, 1) := by decide +kernel
theorem dX10_felt_7 : decode cX10_felt 7 = .ok (.iconst 0, 1) := by decide +kernel
theorem dX10_felt_8 : decode cX10_felt 8 = .ok (.invokevirtual 71, 3) := by decide +kernel
theorem dX10_felt_11 : decode cX10_felt 11 = .ok (.imul, 1) := by decide +kernel
theorem dX10_felt_12 : decode cX10_felt 12 = .ok (.bipush 100, 2) := by decide +kernel
theorem dX10_felt_14 : decode cX10_felt 14 = .ok (.idiv, 1) := by decide +kernel
theorem dX10_felt_15 : decode cX10_felt 15 = .ok (.istore_n 2, 1) := by decide +kernel
theorem dX10_felt_16 : decode cX10_felt 16 = .ok (.iload_n 2, 1) := by decide +kernel
theorem dX10_felt_17 : decode cX10_felt 17 = .ok (.iload_n 2, 1) := by decide +kernel
theorem dX10_felt_18 : decode cX10_felt 18 = .ok (.aload_n 0, 1) := by decide +kernel
theorem dX10_felt_19 : decode cX10_felt 19 = .ok (.iload_n 1, 1) := by decide +kernel
theorem dX10_felt_20 : decode cX10_felt 20 = .ok (.iconst 1, 1) := by decide +kernel
theorem dX10_felt_21 : decode cX10_felt 21 = .ok (.invokevirtual 71, 3) := by decide +kernel
theorem dX10_felt_24 : decode cX10_felt 24 = .ok (.imul, 1) := by decide +kernel
theorem dX10_felt_25 : decode cX10_felt 25 = .ok (.bipush 100, 2) := by decide +kernel
theorem dX10_felt_27 : decode cX10_felt 27 = .ok (.idiv, 1) := by decide +kernel
theorem dX10_felt_28 : decode cX10_felt 28 = .ok (.isub, 1) := by decide +kernel
theorem dX10_felt_29 : decode cX10_felt 29 = .ok (.ireturn, 1) := by decide +kernel
theorem dX10_ringFlow_0 : decode cX10_ringFlow 0 = .ok (.iload_n 1, 1) := by decide +kernel
theorem dX10_ringFlow_1 : decode cX10_ringFlow 1 = .ok (.aload_n 0, 1) := by decide +kernel
theorem dX10_ringFlow_2 : decode cX10_ringFlow 2 = .ok (.getfield 7, 3) := by decide +kernel
theorem dX10_ringFlow_5 : decode cX10_ringFlow 5 = .ok (.iconst 5, 1) := by decide +kernel
theorem dX10_ringFlow_6 : decode cX10_ringFlow 6 = .ok (.iaload, 1) := by decide +kernel
theorem dX10_ringFlow_7 : decode cX10_ringFlow 7 = .ok (.aload_n 0, 1) := by decide +kernel
theorem dX10_ringFlow_8 : decode cX10_ringFlow 8 = .ok (.getfield 7, 3) := by decide +kernel
theorem dX10_ringFlow_11 : decode cX10_ringFlow 11 = .ok (.iconst 5, 1) := by decide +kernel
theorem dX10_ringFlow_12 : decode cX10_ringFlow 12 = .ok (.iaload, 1) := by decide +kernel
theorem dX10_ringFlow_13 : decode cX10_ringFlow 13 = .ok (.imul, 1) := by decide +kernel
theorem dX10_ringFlow_14 : decode cX10_ringFlow 14 = .ok (.bipush 100, 2) := by decide +kernel
theorem dX10_ringFlow_16 : decode cX10_ringFlow 16 = .ok (.idiv, 1) := by decide +kernel
theorem dX10_ringFlow_17 : decode cX10_ringFlow 17 = .ok (.imul, 1) := by decide +kernel
theorem dX10_ringFlow_18 : decode cX10_ringFlow 18 = .ok (.iload_n 2, 1) := by decide +kernel
theorem dX10_ringFlow_19 : decode cX10_ringFlow 19 = .ok (.idiv, 1) := by decide +kernel
theorem dX10_ringFlow_20 : decode cX10_ringFlow 20 = .ok (.ireturn, 1) := by decide +kernel
theorem dX10_trueFlow_0 : decode cX10_trueFlow 0 = .ok (.iconst 0, 1) := by decide +kernel
theorem dX10_trueFlow_1 : decode cX10_trueFlow 1 = .ok (.istore_n 2, 1) := by decide +kernel
theorem dX10_trueFlow_2 : decode cX10_trueFlow 2 = .ok (.iconst 0, 1) := by decide +kernel
theorem dX10_trueFlow_3 : decode cX10_trueFlow 3 = .ok (.istore_n 3, 1) := by decide +kernel
theorem dX10_trueFlow_4 : decode cX10_trueFlow 4 = .ok (.iload_n 3, 1) := by decide +kernel
theorem dX10_trueFlow_5 : decode cX10_trueFlow 5 = .ok (.iload_n 1, 1) := by decide +kernel
theorem dX10_trueFlow_6 : decode cX10_trueFlow 6 = .ok (.if_icmp .ge 23, 3) := by decide +kernel
theorem dX10_trueFlow_9 : decode cX10_trueFlow 9 = .ok (.iload_n 2, 1) := by decide +kernel
theorem dX10_trueFlow_10 : decode cX10_trueFlow 10 = .ok (.aload_n 0, 1) := by decide +kernel
theorem dX10_trueFlow_11 : decode cX10_trueFlow 11 = .ok (.aload_n 0, 1) := by decide +kernel
theorem dX10_trueFlow_12 : decode cX10_trueFlow 12 = .ok (.iload_n 3, 1) := by decide +kernel
theorem dX10_trueFlow_13 : decode cX10_trueFlow 13 = .ok (.iload_n 1, 1) := by decide +kernel
theorem dX10_trueFlow_14 : decode cX10_trueFlow 14 = .ok (.invokevirtual 65, 3) := by decide +kernel
theorem dX10_trueFlow_17 : decode cX10_trueFlow 17 = .ok (.iload_n 1, 1) := by decide +kernel
theorem dX10_trueFlow_18 : decode cX10_trueFlow 18 = .ok (.invokevirtual 74, 3) := by decide +kernel
theorem dX10_trueFlow_21 : decode cX10_trueFlow 21 = .ok (.iadd, 1) := by decide +kernel
theorem dX10_trueFlow_22 : decode cX10_trueFlow 22 = .ok (.istore_n 2, 1) := by decide +kernel
theorem dX10_trueFlow_23 : decode cX10_trueFlow 23 = .ok (.iinc 3 1, 3) := by decide +kernel
theorem dX10_trueFlow_26 : decode cX10_trueFlow 26 = .ok (.goto (-22), 3) := by decide +kernel
theorem dX10_trueFlow_29 : decode cX10_trueFlow 29 = .ok (.iload_n 2, 1) := by decide +kernel
theorem dX10_trueFlow_30 : decode cX10_trueFlow 30 = .ok (.ireturn, 1) := by decide +kernel
theorem dX10_counts_0 : decode cX10_counts 0 = .ok (.aload_n 0, 1) := by decide +kernel
theorem dX10_counts_1 : decode cX10_counts 1 = .ok (.iload_n 1, 1) := by decide +kernel
theorem dX10_counts_2 : decode cX10_counts 2 = .ok (.iconst 0, 1) := by decide +kernel
theorem dX10_counts_3 : decode cX10_counts 3 = .ok (.invokevirtual 77, 3) := by decide +kernel
theorem dX10_counts_6 : decode cX10_counts 6 = .ok (.aload_n 0, 1) := by decide +kernel
theorem dX10_counts_7 : decode cX10_counts 7 = .ok (.getfield 7, 3) := by decide +kernel
theorem dX10_counts_10 : decode cX10_counts 10 = .ok (.bipush 6, 2) := by decide +kernel
theorem dX10_counts_12 : decode cX10_counts 12 = .ok (.iaload, 1) := by decide +kernel
theorem dX10_counts_13 : decode cX10_counts 13 = .ok (.if_icmp .ne 22, 3) := by decide +kernel
theorem dX10_counts_16 : decode cX10_counts 16 = .ok (.aload_n 0, 1) := by decide +kernel
theorem dX10_counts_17 : decode cX10_counts 17 = .ok (.iload_n 1, 1) := by decide +kernel
theorem dX10_counts_18 : decode cX10_counts 18 = .ok (.iconst 1, 1) := by decide +kernel
theorem dX10_counts_19 : decode cX10_counts 19 = .ok (.invokevirtual 77, 3) := by decide +kernel
theorem dX10_counts_22 : decode cX10_counts 22 = .ok (.aload_n 0, 1) := by decide +kernel
theorem dX10_counts_23 : decode cX10_counts 23 = .ok (.getfield 7, 3) := by decide +kernel
theorem dX10_counts_26 : decode cX10_counts 26 = .ok (.iconst 5, 1) := by decide +kernel
theorem dX10_counts_27 : decode cX10_counts 27 = .ok (.iaload, 1) := by decide +kernel
theorem dX10_counts_28 : decode cX10_counts 28 = .ok (.if_icmp .ne 7, 3) := by decide +kernel
theorem dX10_counts_31 : decode cX10_counts 31 = .ok (.iconst 1, 1) := by decide +kernel
theorem dX10_counts_32 : decode cX10_counts 32 = .ok (.goto 4, 3) := by decide +kernel
theorem dX10_counts_35 : decode cX10_counts 35 = .ok (.iconst 0, 1) := by decide +kernel
theorem dX10_counts_36 : decode cX10_counts 36 = .ok (.ireturn, 1) := by decide +kernel
theorem dX10_laysMeans_0 : decode cX10_laysMeans 0 = .ok (.aload_n 0, 1) := by decide +kernel
theorem dX10_laysMeans_1 : decode cX10_laysMeans 1 = .ok (.iconst 0, 1) := by decide +kernel
theorem dX10_laysMeans_2 : decode cX10_laysMeans 2 = .ok (.putfield 80, 3) := by decide +kernel
theorem dX10_laysMeans_5 : decode cX10_laysMeans 5 = .ok (.iconst 0, 1) := by decide +kernel
theorem dX10_laysMeans_6 : decode cX10_laysMeans 6 = .ok (.istore_n 1, 1) := by decide +kernel
theorem dX10_laysMeans_7 : decode cX10_laysMeans 7 = .ok (.iload_n 1, 1) := by decide +kernel
theorem dX10_laysMeans_8 : decode cX10_laysMeans 8 = .ok (.bipush 8, 2) := by decide +kernel
theorem dX10_laysMeans_10 : decode cX10_laysMeans 10 = .ok (.if_icmp .ge 16, 3) := by decide +kernel
theorem dX10_laysMeans_13 : decode cX10_laysMeans 13 = .ok (.aload_n 0, 1) := by decide +kernel
theorem dX10_laysMeans_14 : decode cX10_laysMeans 14 = .ok (.getfield 26, 3) := by decide +kernel
theorem dX10_laysMeans_17 : decode cX10_laysMeans 17 = .ok (.iload_n 1, 1) := by decide +kernel
theorem dX10_laysMeans_18 : decode cX10_laysMeans 18 = .ok (.iconst 0, 1) := by decide +kernel
theorem dX10_laysMeans_19 : decode cX10_laysMeans 19 = .ok (.iastore, 1) := by decide +kernel
theorem dX10_laysMeans_20 : decode cX10_laysMeans 20 = .ok (.iinc 1 1, 3) := by decide +kernel
theorem dX10_laysMeans_23 : decode cX10_laysMeans 23 = .ok (.goto (-16), 3) := by decide +kernel
theorem dX10_laysMeans_26 : decode cX10_laysMeans 26 = .ok (.iconst 0, 1) := by decide +kernel
theorem dX10_laysMeans_27 : decode cX10_laysMeans 27 = .ok (.istore_n 1, 1) := by decide +kernel
theorem dX10_laysMeans_28 : decode cX10_laysMeans 28 = .ok (.iload_n 1, 1) := by decide +kernel
theorem dX10_laysMeans_29 : decode cX10_laysMeans 29 = .ok (.aload_n 0, 1) := by decide +kernel
theorem dX10_laysMeans_30 : decode cX10_laysMeans 30 = .ok (.getfield 7, 3) := by decide +kernel
theorem dX10_laysMeans_33 : decode cX10_laysMeans 33 = .ok (.bipush 7, 2) := by decide +kernel
theorem dX10_laysMeans_35 : decode cX10_laysMeans 35 = .ok (.iaload, 1) := by decide +kernel
theorem dX10_laysMeans_36 : decode cX10_laysMeans 36 = .ok (.if_icmp .ge 63, 3) := by decide +kernel
theorem dX10_laysMeans_39 : decode cX10_laysMeans 39 = .ok (.aload_n 0, 1) := by decide +kernel
theorem dX10_laysMeans_40 : decode cX10_laysMeans 40 = .ok (.iload_n 1, 1) := by decide +kernel
theorem dX10_laysMeans_41 : decode cX10_laysMeans 41 = .ok (.invokevirtual 83, 3) := by decide +kernel
theorem dX10_laysMeans_44 : decode cX10_laysMeans 44 = .ok (.ifCond .eq 49, 3) := by decide +kernel
theorem dX10_laysMeans_47 : decode cX10_laysMeans 47 = .ok (.aload_n 0, 1) := by decide +kernel
theorem dX10_laysMeans_48 : decode cX10_laysMeans 48 = .ok (.dup, 1) := by decide +kernel
theorem dX10_laysMeans_49 : decode cX10_laysMeans 49 = .ok (.getfield 80, 3) := by decide +kernel
theorem dX10_laysMeans_52 : decode cX10_laysMeans 52 = .ok (.iconst 1, 1) := by decide +kernel
theorem dX10_laysMeans_53 : decode cX10_laysMeans 53 = .ok (.iadd, 1) := by decide +kernel
theorem dX10_laysMeans_54 : decode cX10_laysMeans 54 = .ok (.putfield 80, 3) := by decide +kernel
theorem dX10_laysMeans_57 : decode cX10_laysMeans 57 = .ok (.iconst 0, 1) := by decide +kernel
theorem dX10_laysMeans_58 : decode cX10_laysMeans 58 = .ok (.istore_n 2, 1) := by decide +kernel
theorem dX10_laysMeans_59 : decode cX10_laysMeans 59 = .ok (.iload_n 2, 1) := by decide +kernel
theorem dX10_laysMeans_60 : decode cX10_laysMeans 60 = .ok (.aload_n 0, 1) := by decide +kernel
theorem dX10_laysMeans_61 : decode cX10_laysMeans 61 = .ok (.getfield 7, 3) := by decide +kernel
theorem dX10_laysMeans_64 : decode cX10_laysMeans 64 = .ok (.bipush 6, 2) := by decide +kernel
theorem dX10_laysMeans_66 : decode cX10_laysMeans 66 = .ok (.iaload, 1) := by decide +kernel
theorem dX10_laysMeans_67 : decode cX10_laysMeans 67 = .ok (.if_icmp .ge 26, 3) := by decide +kernel
theorem dX10_laysMeans_70 : decode cX10_laysMeans 70 = .ok (.aload_n 0, 1) := by decide +kernel
theorem dX10_laysMeans_71 : decode cX10_laysMeans 71 = .ok (.getfield 26, 3) := by decide +kernel
theorem dX10_laysMeans_74 : decode cX10_laysMeans 74 = .ok (.iload_n 2, 1) := by decide +kernel
theorem dX10_laysMeans_75 : decode cX10_laysMeans 75 = .ok (.dup2, 1) := by decide +kernel
theorem dX10_laysMeans_76 : decode cX10_laysMeans 76 = .ok (.iaload, 1) := by decide +kernel
theorem dX10_laysMeans_77 : decode cX10_laysMeans 77 = .ok (.aload_n 0, 1) := by decide +kernel
theorem dX10_laysMeans_78 : decode cX10_laysMeans 78 = .ok (.iload_n 1, 1) := by decide +kernel
theorem dX10_laysMeans_79 : decode cX10_laysMeans 79 = .ok (.iconst 2, 1) := by decide +kernel
theorem dX10_laysMeans_80 : decode cX10_laysMeans 80 = .ok (.iload_n 2, 1) := by decide +kernel
theorem dX10_laysMeans_81 : decode cX10_laysMeans 81 = .ok (.iadd, 1) := by decide +kernel
theorem dX10_laysMeans_82 : decode cX10_laysMeans 82 = .ok (.invokevirtual 77, 3) := by decide +kernel
theorem dX10_laysMeans_85 : decode cX10_laysMeans 85 = .ok (.iadd, 1) := by decide +kernel
theorem dX10_laysMeans_86 : decode cX10_laysMeans 86 = .ok (.iastore, 1) := by decide +kernel
theorem dX10_laysMeans_87 : decode cX10_laysMeans 87 = .ok (.iinc 2 1, 3) := by decide +kernel
theorem dX10_laysMeans_90 : decode cX10_laysMeans 90 = .ok (.goto (-31), 3) := by decide +kernel
theorem dX10_laysMeans_93 : decode cX10_laysMeans 93 = .ok (.iinc 1 1, 3) := by decide +kernel
theorem dX10_laysMeans_96 : decode cX10_laysMeans 96 = .ok (.goto (-68), 3) := by decide +kernel
theorem dX10_laysMeans_99 : decode cX10_laysMeans 99 = .ok (.iconst 0, 1) := by decide +kernel
theorem dX10_laysMeans_100 : decode cX10_laysMeans 100 = .ok (.istore_n 1, 1) := by decide +kernel
theorem dX10_laysMeans_101 : decode cX10_laysMeans 101 = .ok (.iload_n 1, 1) := by decide +kernel
theorem dX10_laysMeans_102 : decode cX10_laysMeans 102 = .ok (.aload_n 0, 1) := by decide +kernel
theorem dX10_laysMeans_103 : decode cX10_laysMeans 103 = .ok (.getfield 7, 3) := by decide +kernel
theorem dX10_laysMeans_106 : decode cX10_laysMeans 106 = .ok (.bipush 6, 2) := by decide +kernel
theorem dX10_laysMeans_108 : decode cX10_laysMeans 108 = .ok (.iaload, 1) := by decide +kernel
theorem dX10_laysMeans_109 : decode cX10_laysMeans 109 = .ok (.if_icmp .ge 29, 3) := by decide +kernel
theorem dX10_laysMeans_112 : decode cX10_laysMeans 112 = .ok (.aload_n 0, 1) := by decide +kernel
theorem dX10_laysMeans_113 : decode cX10_laysMeans 113 = .ok (.getfield 80, 3) := by decide +kernel
theorem dX10_laysMeans_116 : decode cX10_laysMeans 116 = .ok (.ifCond .le 22, 3) := by decide +kernel
theorem dX10_laysMeans_119 : decode cX10_laysMeans 119 = .ok (.aload_n 0, 1) := by decide +kernel
theorem dX10_laysMeans_120 : decode cX10_laysMeans 120 = .ok (.getfield 26, 3) := by decide +kernel
theorem dX10_laysMeans_123 : decode cX10_laysMeans 123 = .ok (.iload_n 1, 1) := by decide +kernel
theorem dX10_laysMeans_124 : decode cX10_laysMeans 124 = .ok (.dup2, 1) := by decide +kernel
theorem dX10_laysMeans_125 : decode cX10_laysMeans 125 = .ok (.iaload, 1) := by decide +kernel
theorem dX10_laysMeans_126 : decode cX10_laysMeans 126 = .ok (.aload_n 0, 1) := by decide +kernel
theorem dX10_laysMeans_127 : decode cX10_laysMeans 127 = .ok (.getfield 80, 3) := by decide +kernel
theorem dX10_laysMeans_130 : decode cX10_laysMeans 130 = .ok (.idiv, 1) := by decide +kernel
theorem dX10_laysMeans_131 : decode cX10_laysMeans 131 = .ok (.iastore, 1) := by decide +kernel
theorem dX10_laysMeans_132 : decode cX10_laysMeans 132 = .ok (.iinc 1 1, 3) := by decide +kernel
theorem dX10_laysMeans_135 : decode cX10_laysMeans 135 = .ok (.goto (-34), 3) := by decide +kernel
theorem dX10_laysMeans_138 : decode cX10_laysMeans 138 = .ok (.return_, 1) := by decide +kernel
theorem dX10_reason_0 : decode cX10_reason 0 = .ok (.aload_n 0, 1) := by decide +kernel
theorem dX10_reason_1 : decode cX10_reason 1 = .ok (.getfield 80, 3) := by decide +kernel
theorem dX10_reason_4 : decode cX10_reason 4 = .ok (.ifCond .eq 12, 3) := by decide +kernel
theorem dX10_reason_7 : decode cX10_reason 7 = .ok (.aload_n 0, 1) := by decide +kernel
theorem dX10_reason_8 : decode cX10_reason 8 = .ok (.getfield 26, 3) := by decide +kernel
theorem dX10_reason_11 : decode cX10_reason 11 = .ok (.iload_n 1, 1) := by decide +kernel
theorem dX10_reason_12 : decode cX10_reason 12 = .ok (.iaload, 1) := by decide +kernel
theorem dX10_reason_13 : decode cX10_reason 13 = .ok (.ifCond .ne 16, 3) := by decide +kernel
theorem dX10_reason_16 : decode cX10_reason 16 = .ok (.aload_n 0, 1) := by decide +kernel
theorem dX10_reason_17 : decode cX10_reason 17 = .ok (.getfield 80, 3) := by decide +kernel
theorem dX10_reason_20 : decode cX10_reason 20 = .ok (.ifCond .ne 7, 3) := by decide +kernel
theorem dX10_reason_23 : decode cX10_reason 23 = .ok (.iconst 1, 1) := by decide +kernel
theorem dX10_reason_24 : decode cX10_reason 24 = .ok (.goto 4, 3) := by decide +kernel
theorem dX10_reason_27 : decode cX10_reason 27 = .ok (.iconst 2, 1) := by decide +kernel
theorem dX10_reason_28 : decode cX10_reason 28 = .ok (.ireturn, 1) := by decide +kernel
theorem dX10_reason_29 : decode cX10_reason 29 = .ok (.bipush 100, 2) := by decide +kernel
theorem dX10_reason_31 : decode cX10_reason 31 = .ok (.aload_n 0, 1) := by decide +kernel
theorem dX10_reason_32 : decode cX10_reason 32 = .ok (.getfield 26, 3) := by decide +kernel
theorem dX10_reason_35 : decode cX10_reason 35 = .ok (.iload_n 1, 1) := by decide +kernel
theorem dX10_reason_36 : decode cX10_reason 36 = .ok (.iaload, 1) := by decide +kernel
theorem dX10_reason_37 : decode cX10_reason 37 = .ok (.imul, 1) := by decide +kernel
theorem dX10_reason_38 : decode cX10_reason 38 = .ok (.aload_n 0, 1) := by decide +kernel
theorem dX10_reason_39 : decode cX10_reason 39 = .ok (.getfield 7, 3) := by decide +kernel
theorem dX10_reason_42 : decode cX10_reason 42 = .ok (.iconst 3, 1) := by decide +kernel
theorem dX10_reason_43 : decode cX10_reason 43 = .ok (.iaload, 1) := by decide +kernel
theorem dX10_reason_44 : decode cX10_reason 44 = .ok (.iload_n 2, 1) := by decide +kernel
theorem dX10_reason_45 : decode cX10_reason 45 = .ok (.imul, 1) := by decide +kernel
theorem dX10_reason_46 : decode cX10_reason 46 = .ok (.if_icmp .ge 7, 3) := by decide +kernel
theorem dX10_reason_49 : decode cX10_reason 49 = .ok (.iconst 3, 1) := by decide +kernel
theorem dX10_reason_50 : decode cX10_reason 50 = .ok (.goto 12, 3) := by decide +kernel
theorem dX10_reason_53 : decode cX10_reason 53 = .ok (.iload_n 3, 1) := by decide +kernel
theorem dX10_reason_54 : decode cX10_reason 54 = .ok (.ifCond .eq 7, 3) := by decide +kernel
theorem dX10_reason_57 : decode cX10_reason 57 = .ok (.iconst 4, 1) := by decide +kernel
theorem dX10_reason_58 : decode cX10_reason 58 = .ok (.goto 4, 3) := by decide +kernel
theorem dX10_reason_61 : decode cX10_reason 61 = .ok (.iconst 0, 1) := by decide +kernel
theorem dX10_reason_62 : decode cX10_reason 62 = .ok (.ireturn, 1) := by decide +kernel
theorem dX10_nearest_0 : decode cX10_nearest 0 = .ok (.iload_n 1, 1) := by decide +kernel
theorem dX10_nearest_1 : decode cX10_nearest 1 = .ok (.iload_n 2, 1) := by decide +kernel
theorem dX10_nearest_2 : decode cX10_nearest 2 = .ok (.iadd, 1) := by decide +kernel
theorem dX10_nearest_3 : decode cX10_nearest 3 = .ok (.istore_n 3, 1) := by decide +kernel
theorem dX10_nearest_4 : decode cX10_nearest 4 = .ok (.aload_n 0, 1) := by decide +kernel
theorem dX10_nearest_5 : decode cX10_nearest 5 = .ok (.iload_n 3, 1) := by decide +kernel
theorem dX10_nearest_6 : decode cX10_nearest 6 = .ok (.invokevirtual 87, 3) := by decide +kernel
theorem dX10_nearest_9 : decode cX10_nearest 9 = .ok (.ifCond .eq 19, 3) := by decide +kernel
theorem dX10_nearest_12 : decode cX10_nearest 12 = .ok (.aload_n 0, 1) := by decide +kernel
theorem dX10_nearest_13 : decode cX10_nearest 13 = .ok (.getfield 29, 3) := by decide +kernel
theorem dX10_nearest_16 : decode cX10_nearest 16 = .ok (.iload_n 3, 1) := by decide +kernel
theorem dX10_nearest_17 : decode cX10_nearest 17 = .ok (.iaload, 1) := by decide +kernel
theorem dX10_nearest_18 : decode cX10_nearest 18 = .ok (.ifCond .eq 10, 3) := by decide +kernel
theorem dX10_nearest_21 : decode cX10_nearest 21 = .ok (.iload_n 3, 1) := by decide +kernel
theorem dX10_nearest_22 : decode cX10_nearest 22 = .ok (.iload_n 2, 1) := by decide +kernel
theorem dX10_nearest_23 : decode cX10_nearest 23 = .ok (.iadd, 1) := by decide +kernel
theorem dX10_nearest_24 : decode cX10_nearest 24 = .ok (.istore_n 3, 1) := by decide +kernel
theorem dX10_nearest_25 : decode cX10_nearest 25 = .ok (.goto (-21), 3) := by decide +kernel
theorem dX10_nearest_28 : decode cX10_nearest 28 = .ok (.aload_n 0, 1) := by decide +kernel
theorem dX10_nearest_29 : decode cX10_nearest 29 = .ok (.iload_n 3, 1) := by decide +kernel
theorem dX10_nearest_30 : decode cX10_nearest 30 = .ok (.invokevirtual 87, 3) := by decide +kernel
theorem dX10_nearest_33 : decode cX10_nearest 33 = .ok (.ifCond .eq 7, 3) := by decide +kernel
theorem dX10_nearest_36 : decode cX10_nearest 36 = .ok (.iload_n 3, 1) := by decide +kernel
theorem dX10_nearest_37 : decode cX10_nearest 37 = .ok (.goto 4, 3) := by decide +kernel
theorem dX10_nearest_40 : decode cX10_nearest 40 = .ok (.iconst (-1), 1) := by decide +kernel
theorem dX10_nearest_41 : decode cX10_nearest 41 = .ok (.ireturn, 1) := by decide +kernel
theorem dX10_mended_0 : decode cX10_mended 0 = .ok (.aload_n 0, 1) := by decide +kernel
theorem dX10_mended_1 : decode cX10_mended 1 = .ok (.iload_n 1, 1) := by decide +kernel
theorem dX10_mended_2 : decode cX10_mended 2 = .ok (.iconst 1, 1) := by decide +kernel
theorem dX10_mended_3 : decode cX10_mended 3 = .ok (.invokevirtual 90, 3) := by decide +kernel
theorem dX10_mended_6 : decode cX10_mended 6 = .ok (.istore_n 2, 1) := by decide +kernel
theorem dX10_mended_7 : decode cX10_mended 7 = .ok (.aload_n 0, 1) := by decide +kernel
theorem dX10_mended_8 : decode cX10_mended 8 = .ok (.iload_n 1, 1) := by decide +kernel
theorem dX10_mended_9 : decode cX10_mended 9 = .ok (.iconst (-1), 1) := by decide +kernel
theorem dX10_mended_10 : decode cX10_mended 10 = .ok (.invokevirtual 90, 3) := by decide +kernel
theorem dX10_mended_13 : decode cX10_mended 13 = .ok (.istore_n 3, 1) := by decide +kernel
theorem dX10_mended_14 : decode cX10_mended 14 = .ok (.iload_n 2, 1) := by decide +kernel
theorem dX10_mended_15 : decode cX10_mended 15 = .ok (.iconst (-1), 1) := by decide +kernel
theorem dX10_mended_16 : decode cX10_mended 16 = .ok (.if_icmp .eq 8, 3) := by decide +kernel
theorem dX10_mended_19 : decode cX10_mended 19 = .ok (.iload_n 3, 1) := by decide +kernel
theorem dX10_mended_20 : decode cX10_mended 20 = .ok (.iconst (-1), 1) := by decide +kernel
theorem dX10_mended_21 : decode cX10_mended 21 = .ok (.if_icmp .ne 24, 3) := by decide +kernel
theorem dX10_mended_24 : decode cX10_mended 24 = .ok (.iload_n 2, 1) := by decide +kernel
theorem dX10_mended_25 : decode cX10_mended 25 = .ok (.iconst (-1), 1) := by decide +kernel
theorem dX10_mended_26 : decode cX10_mended 26 = .ok (.if_icmp .ne 12, 3) := by decide +kernel
theorem dX10_mended_29 : decode cX10_mended 29 = .ok (.aload_n 0, 1) := by decide +kernel
theorem dX10_mended_30 : decode cX10_mended 30 = .ok (.getfield 32, 3) := by decide +kernel
theorem dX10_mended_33 : decode cX10_mended 33 = .ok (.iload_n 3, 1) := by decide +kernel
theorem dX10_mended_34 : decode cX10_mended 34 = .ok (.iaload, 1) := by decide +kernel
theorem dX10_mended_35 : decode cX10_mended 35 = .ok (.goto 9, 3) := by decide +kernel
theorem dX10_mended_38 : decode cX10_mended 38 = .ok (.aload_n 0, 1) := by decide +kernel
theorem dX10_mended_39 : decode cX10_mended 39 = .ok (.getfield 32, 3) := by decide +kernel
theorem dX10_mended_42 : decode cX10_mended 42 = .ok (.iload_n 2, 1) := by decide +kernel
theorem dX10_mended_43 : decode cX10_mended 43 = .ok (.iaload, 1) := by decide +kernel
theorem dX10_mended_44 : decode cX10_mended 44 = .ok (.ireturn, 1) := by decide +kernel
theorem dX10_mended_45 : decode cX10_mended 45 = .ok (.aload_n 0, 1) := by decide +kernel
theorem dX10_mended_46 : decode cX10_mended 46 = .ok (.getfield 32, 3) := by decide +kernel
theorem dX10_mended_49 : decode cX10_mended 49 = .ok (.iload_n 2, 1) := by decide +kernel
theorem dX10_mended_50 : decode cX10_mended 50 = .ok (.iaload, 1) := by decide +kernel
theorem dX10_mended_51 : decode cX10_mended 51 = .ok (.aload_n 0, 1) := by decide +kernel
theorem dX10_mended_52 : decode cX10_mended 52 = .ok (.getfield 32, 3) := by decide +kernel
theorem dX10_mended_55 : decode cX10_mended 55 = .ok (.iload_n 3, 1) := by decide +kernel
theorem dX10_mended_56 : decode cX10_mended 56 = .ok (.iaload, 1) := by decide +kernel
theorem dX10_mended_57 : decode cX10_mended 57 = .ok (.iadd, 1) := by decide +kernel
theorem dX10_mended_58 : decode cX10_mended 58 = .ok (.iconst 2, 1) := by decide +kernel
theorem dX10_mended_59 : decode cX10_mended 59 = .ok (.idiv, 1) := by decide +kernel
theorem dX10_mended_60 : decode cX10_mended 60 = .ok (.ireturn, 1) := by decide +kernel
theorem dX10_laysTold_0 : decode cX10_laysTold 0 = .ok (.iconst 0, 1) := by decide +kernel
theorem dX10_laysTold_1 : decode cX10_laysTold 1 = .ok (.istore_n 2, 1) := by decide +kernel
theorem dX10_laysTold_2 : decode cX10_laysTold 2 = .ok (.iconst 0, 1) := by decide +kernel
theorem dX10_laysTold_3 : decode cX10_laysTold 3 = .ok (.istore_n 3, 1) := by decide +kernel
theorem dX10_laysTold_4 : decode cX10_laysTold 4 = .ok (.iload_n 3, 1) := by decide +kernel
theorem dX10_laysTold_5 : decode cX10_laysTold 5 = .ok (.aload_n 0, 1) := by decide +kernel
theorem dX10_laysTold_6 : decode cX10_laysTold 6 = .ok (.getfield 7, 3) := by decide +kernel
theorem dX10_laysTold_9 : decode cX10_laysTold 9 = .ok (.bipush 6, 2) := by decide +kernel
theorem dX10_laysTold_11 : decode cX10_laysTold 11 = .ok (.iaload, 1) := by decide +kernel
theorem dX10_laysTold_12 : decode cX10_laysTold 12 = .ok (.if_icmp .ge 30, 3) := by decide +kernel
theorem dX10_laysTold_15 : decode cX10_laysTold 15 = .ok (.aload_n 0, 1) := by decide +kernel
theorem dX10_laysTold_16 : decode cX10_laysTold 16 = .ok (.getfield 26, 3) := by decide +kernel
theorem dX10_laysTold_19 : decode cX10_laysTold 19 = .ok (.iload_n 3, 1) := by decide +kernel
theorem dX10_laysTold_20 : decode cX10_laysTold 20 = .ok (.iaload, 1) := by decide +kernel
theorem dX10_laysTold_21 : decode cX10_laysTold 21 = .ok (.iload_n 2, 1) := by decide +kernel
theorem dX10_laysTold_22 : decode cX10_laysTold 22 = .ok (.if_icmp .le 12, 3) := by decide +kernel
theorem dX10_laysTold_25 : decode cX10_laysTold 25 = .ok (.aload_n 0, 1) := by decide +kernel
theorem dX10_laysTold_26 : decode cX10_laysTold 26 = .ok (.getfield 26, 3) := by decide +kernel
theorem dX10_laysTold_29 : decode cX10_laysTold 29 = .ok (.iload_n 3, 1) := by decide +kernel
theorem dX10_laysTold_30 : decode cX10_laysTold 30 = .ok (.iaload, 1) := by decide +kernel
theorem dX10_laysTold_31 : decode cX10_laysTold 31 = .ok (.goto 4, 3) := by decide +kernel
theorem dX10_laysTold_34 : decode cX10_laysTold 34 = .ok (.iload_n 2, 1) := by decide +kernel
theorem dX10_laysTold_35 : decode cX10_laysTold 35 = .ok (.istore_n 2, 1) := by decide +kernel
theorem dX10_laysTold_36 : decode cX10_laysTold 36 = .ok (.iinc 3 1, 3) := by decide +kernel
theorem dX10_laysTold_39 : decode cX10_laysTold 39 = .ok (.goto (-35), 3) := by decide +kernel
theorem dX10_laysTold_42 : decode cX10_laysTold 42 = .ok (.aload_n 0, 1) := by decide +kernel
theorem dX10_laysTold_43 : decode cX10_laysTold 43 = .ok (.iconst 0, 1) := by decide +kernel
theorem dX10_laysTold_44 : decode cX10_laysTold 44 = .ok (.putfield 93, 3) := by decide +kernel
theorem dX10_laysTold_47 : decode cX10_laysTold 47 = .ok (.iconst 0, 1) := by decide +kernel
theorem dX10_laysTold_48 : decode cX10_laysTold 48 = .ok (.istore_n 3, 1) := by decide +kernel
theorem dX10_laysTold_49 : decode cX10_laysTold 49 = .ok (.iload_n 3, 1) := by decide +kernel
theorem dX10_laysTold_50 : decode cX10_laysTold 50 = .ok (.aload_n 0, 1) := by decide +kernel
theorem dX10_laysTold_51 : decode cX10_laysTold 51 = .ok (.getfield 7, 3) := by decide +kernel
theorem dX10_laysTold_54 : decode cX10_laysTold 54 = .ok (.bipush 6, 2) := by decide +kernel
theorem dX10_laysTold_56 : decode cX10_laysTold 56 = .ok (.iaload, 1) := by decide +kernel
theorem dX10_laysTold_57 : decode cX10_laysTold 57 = .ok (.if_icmp .ge 96, 3) := by decide +kernel
theorem dX10_laysTold_60 : decode cX10_laysTold 60 = .ok (.aload_n 0, 1) := by decide +kernel
theorem dX10_laysTold_61 : decode cX10_laysTold 61 = .ok (.getfield 29, 3) := by decide +kernel
theorem dX10_laysTold_64 : decode cX10_laysTold 64 = .ok (.iload_n 3, 1) := by decide +kernel
theorem dX10_laysTold_65 : decode cX10_laysTold 65 = .ok (.aload_n 0, 1) := by decide +kernel
theorem dX10_laysTold_66 : decode cX10_laysTold 66 = .ok (.iload_n 3, 1) := by decide +kernel
theorem dX10_laysTold_67 : decode cX10_laysTold 67 = .ok (.iload_n 2, 1) := by decide +kernel
theorem dX10_laysTold_68 : decode cX10_laysTold 68 = .ok (.aload_n 0, 1) := by decide +kernel
