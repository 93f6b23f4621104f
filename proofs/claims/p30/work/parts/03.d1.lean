theorem dX0_quotient_0 : decode cX0_quotient 0 = .ok (.iload_n 1, 1) := by decide +kernel
theorem dX0_quotient_1 : decode cX0_quotient 1 = .ok (.ifCond .ne 7, 3) := by decide +kernel
theorem dX0_quotient_4 : decode cX0_quotient 4 = .ok (.iconst 0, 1) := by decide +kernel
theorem dX0_quotient_5 : decode cX0_quotient 5 = .ok (.goto 6, 3) := by decide +kernel
theorem dX0_quotient_8 : decode cX0_quotient 8 = .ok (.iload_n 0, 1) := by decide +kernel
theorem dX0_quotient_9 : decode cX0_quotient 9 = .ok (.iload_n 1, 1) := by decide +kernel
theorem dX0_quotient_10 : decode cX0_quotient 10 = .ok (.idiv, 1) := by decide +kernel
theorem dX0_quotient_11 : decode cX0_quotient 11 = .ok (.ireturn, 1) := by decide +kernel
theorem dX0_wholeRoot_0 : decode cX0_wholeRoot 0 = .ok (.lconst 0, 1) := by decide +kernel
theorem dX0_wholeRoot_1 : decode cX0_wholeRoot 1 = .ok (.lstore_n 1, 1) := by decide +kernel
theorem dX0_wholeRoot_2 : decode cX0_wholeRoot 2 = .ok (.bipush 15, 2) := by decide +kernel
theorem dX0_wholeRoot_4 : decode cX0_wholeRoot 4 = .ok (.istore_n 3, 1) := by decide +kernel
theorem dX0_wholeRoot_5 : decode cX0_wholeRoot 5 = .ok (.iload_n 3, 1) := by decide +kernel
theorem dX0_wholeRoot_6 : decode cX0_wholeRoot 6 = .ok (.ifCond .lt 30, 3) := by decide +kernel
theorem dX0_wholeRoot_9 : decode cX0_wholeRoot 9 = .ok (.lload_n 1, 1) := by decide +kernel
theorem dX0_wholeRoot_10 : decode cX0_wholeRoot 10 = .ok (.lconst 1, 1) := by decide +kernel
theorem dX0_wholeRoot_11 : decode cX0_wholeRoot 11 = .ok (.iload_n 3, 1) := by decide +kernel
theorem dX0_wholeRoot_12 : decode cX0_wholeRoot 12 = .ok (.lshl, 1) := by decide +kernel
theorem dX0_wholeRoot_13 : decode cX0_wholeRoot 13 = .ok (.ladd, 1) := by decide +kernel
theorem dX0_wholeRoot_14 : decode cX0_wholeRoot 14 = .ok (.lstore 4, 2) := by decide +kernel
theorem dX0_wholeRoot_16 : decode cX0_wholeRoot 16 = .ok (.lload 4, 2) := by decide +kernel
theorem dX0_wholeRoot_18 : decode cX0_wholeRoot 18 = .ok (.lload 4, 2) := by decide +kernel
theorem dX0_wholeRoot_20 : decode cX0_wholeRoot 20 = .ok (.lmul, 1) := by decide +kernel
theorem dX0_wholeRoot_21 : decode cX0_wholeRoot 21 = .ok (.iload_n 0, 1) := by decide +kernel
theorem dX0_wholeRoot_22 : decode cX0_wholeRoot 22 = .ok (.i2l, 1) := by decide +kernel
theorem dX0_wholeRoot_23 : decode cX0_wholeRoot 23 = .ok (.lcmp, 1) := by decide +kernel
theorem dX0_wholeRoot_24 : decode cX0_wholeRoot 24 = .ok (.ifCond .gt 6, 3) := by decide +kernel
theorem dX0_wholeRoot_27 : decode cX0_wholeRoot 27 = .ok (.lload 4, 2) := by decide +kernel
theorem dX0_wholeRoot_29 : decode cX0_wholeRoot 29 = .ok (.lstore_n 1, 1) := by decide +kernel
theorem dX0_wholeRoot_30 : decode cX0_wholeRoot 30 = .ok (.iinc 3 (-1), 3) := by decide +kernel
theorem dX0_wholeRoot_33 : decode cX0_wholeRoot 33 = .ok (.goto (-28), 3) := by decide +kernel
theorem dX0_wholeRoot_36 : decode cX0_wholeRoot 36 = .ok (.lload_n 1, 1) := by decide +kernel
theorem dX0_wholeRoot_37 : decode cX0_wholeRoot 37 = .ok (.l2i, 1) := by decide +kernel
theorem dX0_wholeRoot_38 : decode cX0_wholeRoot 38 = .ok (.ireturn, 1) := by decide +kernel
theorem dX1_init_0 : decode cX1_init 0 = .ok (.aload_n 0, 1) := by decide +kernel
theorem dX1_init_1 : decode cX1_init 1 = .ok (.invokespecial 3, 3) := by decide +kernel
theorem dX1_init_4 : decode cX1_init 4 = .ok (.aload_n 0, 1) := by decide +kernel
theorem dX1_init_5 : decode cX1_init 5 = .ok (.bipush 96, 2) := by decide +kernel
theorem dX1_init_7 : decode cX1_init 7 = .ok (.newarray .int, 2) := by decide +kernel
theorem dX1_init_9 : decode cX1_init 9 = .ok (.putfield 9, 3) := by decide +kernel
theorem dX1_init_12 : decode cX1_init 12 = .ok (.aload_n 0, 1) := by decide +kernel
theorem dX1_init_13 : decode cX1_init 13 = .ok (.bipush 12, 2) := by decide +kernel
theorem dX1_init_15 : decode cX1_init 15 = .ok (.newarray .int, 2) := by decide +kernel
theorem dX1_init_17 : decode cX1_init 17 = .ok (.putfield 15, 3) := by decide +kernel
theorem dX1_init_20 : decode cX1_init 20 = .ok (.aload_n 0, 1) := by decide +kernel
theorem dX1_init_21 : decode cX1_init 21 = .ok (.bipush 12, 2) := by decide +kernel
theorem dX1_init_23 : decode cX1_init 23 = .ok (.newarray .int, 2) := by decide +kernel
theorem dX1_init_25 : decode cX1_init 25 = .ok (.putfield 18, 3) := by decide +kernel
theorem dX1_init_28 : decode cX1_init 28 = .ok (.return_, 1) := by decide +kernel
theorem dX1_become_0 : decode cX1_become 0 = .ok (.aload_n 1, 1) := by decide +kernel
theorem dX1_become_1 : decode cX1_become 1 = .ok (.getfield 9, 3) := by decide +kernel
theorem dX1_become_4 : decode cX1_become 4 = .ok (.aload_n 0, 1) := by decide +kernel
theorem dX1_become_5 : decode cX1_become 5 = .ok (.getfield 9, 3) := by decide +kernel
theorem dX1_become_8 : decode cX1_become 8 = .ok (.invokestatic 21, 3) := by decide +kernel
theorem dX1_become_11 : decode cX1_become 11 = .ok (.aload_n 1, 1) := by decide +kernel
theorem dX1_become_12 : decode cX1_become 12 = .ok (.getfield 15, 3) := by decide +kernel
theorem dX1_become_15 : decode cX1_become 15 = .ok (.aload_n 0, 1) := by decide +kernel
theorem dX1_become_16 : decode cX1_become 16 = .ok (.getfield 15, 3) := by decide +kernel
theorem dX1_become_19 : decode cX1_become 19 = .ok (.invokestatic 21, 3) := by decide +kernel
theorem dX1_become_22 : decode cX1_become 22 = .ok (.aload_n 1, 1) := by decide +kernel
theorem dX1_become_23 : decode cX1_become 23 = .ok (.getfield 18, 3) := by decide +kernel
theorem dX1_become_26 : decode cX1_become 26 = .ok (.aload_n 0, 1) := by decide +kernel
theorem dX1_become_27 : decode cX1_become 27 = .ok (.getfield 18, 3) := by decide +kernel
theorem dX1_become_30 : decode cX1_become 30 = .ok (.invokestatic 21, 3) := by decide +kernel
theorem dX1_become_33 : decode cX1_become 33 = .ok (.aload_n 0, 1) := by decide +kernel
theorem dX1_become_34 : decode cX1_become 34 = .ok (.aload_n 1, 1) := by decide +kernel
theorem dX1_become_35 : decode cX1_become 35 = .ok (.getfield 27, 3) := by decide +kernel
theorem dX1_become_38 : decode cX1_become 38 = .ok (.putfield 27, 3) := by decide +kernel
theorem dX1_become_41 : decode cX1_become 41 = .ok (.return_, 1) := by decide +kernel
theorem dX1_headOf_0 : decode cX1_headOf 0 = .ok (.aload_n 0, 1) := by decide +kernel
theorem dX1_headOf_1 : decode cX1_headOf 1 = .ok (.getfield 9, 3) := by decide +kernel
theorem dX1_headOf_4 : decode cX1_headOf 4 = .ok (.iload_n 1, 1) := by decide +kernel
theorem dX1_headOf_5 : decode cX1_headOf 5 = .ok (.bipush 8, 2) := by decide +kernel
theorem dX1_headOf_7 : decode cX1_headOf 7 = .ok (.imul, 1) := by decide +kernel
theorem dX1_headOf_8 : decode cX1_headOf 8 = .ok (.iload_n 2, 1) := by decide +kernel
theorem dX1_headOf_9 : decode cX1_headOf 9 = .ok (.iadd, 1) := by decide +kernel
theorem dX1_headOf_10 : decode cX1_headOf 10 = .ok (.invokestatic 31, 3) := by decide +kernel
theorem dX1_headOf_13 : decode cX1_headOf 13 = .ok (.ireturn, 1) := by decide +kernel
theorem dX1_isCounting_0 : decode cX1_isCounting 0 = .ok (.aload_n 0, 1) := by decide +kernel
theorem dX1_isCounting_1 : decode cX1_isCounting 1 = .ok (.getfield 15, 3) := by decide +kernel
theorem dX1_isCounting_4 : decode cX1_isCounting 4 = .ok (.iload_n 1, 1) := by decide +kernel
theorem dX1_isCounting_5 : decode cX1_isCounting 5 = .ok (.invokestatic 31, 3) := by decide +kernel
theorem dX1_isCounting_8 : decode cX1_isCounting 8 = .ok (.iload_n 2, 1) := by decide +kernel
theorem dX1_isCounting_9 : decode cX1_isCounting 9 = .ok (.if_icmp .ne 19, 3) := by decide +kernel
theorem dX1_isCounting_12 : decode cX1_isCounting 12 = .ok (.aload_n 0, 1) := by decide +kernel
theorem dX1_isCounting_13 : decode cX1_isCounting 13 = .ok (.getfield 18, 3) := by decide +kernel
theorem dX1_isCounting_16 : decode cX1_isCounting 16 = .ok (.iload_n 1, 1) := by decide +kernel
theorem dX1_isCounting_17 : decode cX1_isCounting 17 = .ok (.invokestatic 31, 3) := by decide +kernel
theorem dX1_isCounting_20 : decode cX1_isCounting 20 = .ok (.iload_n 3, 1) := by decide +kernel
theorem dX1_isCounting_21 : decode cX1_isCounting 21 = .ok (.if_icmp .ne 7, 3) := by decide +kernel
theorem dX1_isCounting_24 : decode cX1_isCounting 24 = .ok (.iconst 1, 1) := by decide +kernel
theorem dX1_isCounting_25 : decode cX1_isCounting 25 = .ok (.goto 4, 3) := by decide +kernel
theorem dX1_isCounting_28 : decode cX1_isCounting 28 = .ok (.iconst 0, 1) := by decide +kernel
theorem dX1_isCounting_29 : decode cX1_isCounting 29 = .ok (.ireturn, 1) := by decide +kernel
theorem dX1_add_0 : decode cX1_add 0 = .ok (.aload_n 0, 1) := by decide +kernel
theorem dX1_add_1 : decode cX1_add 1 = .ok (.getfield 27, 3) := by decide +kernel
theorem dX1_add_4 : decode cX1_add 4 = .ok (.bipush 12, 2) := by decide +kernel
theorem dX1_add_6 : decode cX1_add 6 = .ok (.if_icmp .lt 8, 3) := by decide +kernel
theorem dX1_add_9 : decode cX1_add 9 = .ok (.aload_n 0, 1) := by decide +kernel
theorem dX1_add_10 : decode cX1_add 10 = .ok (.iconst 0, 1) := by decide +kernel
theorem dX1_add_11 : decode cX1_add 11 = .ok (.invokevirtual 35, 3) := by decide +kernel
theorem dX1_add_14 : decode cX1_add 14 = .ok (.iconst 0, 1) := by decide +kernel
theorem dX1_add_15 : decode cX1_add 15 = .ok (.istore 4, 2) := by decide +kernel
theorem dX1_add_17 : decode cX1_add 17 = .ok (.iload 4, 2) := by decide +kernel
theorem dX1_add_19 : decode cX1_add 19 = .ok (.iload_n 2, 1) := by decide +kernel
theorem dX1_add_20 : decode cX1_add 20 = .ok (.if_icmp .ge 32, 3) := by decide +kernel
theorem dX1_add_23 : decode cX1_add 23 = .ok (.aload_n 0, 1) := by decide +kernel
theorem dX1_add_24 : decode cX1_add 24 = .ok (.getfield 9, 3) := by decide +kernel
theorem dX1_add_27 : decode cX1_add 27 = .ok (.aload_n 0, 1) := by decide +kernel
theorem dX1_add_28 : decode cX1_add 28 = .ok (.getfield 27, 3) := by decide +kernel
theorem dX1_add_31 : decode cX1_add 31 = .ok (.bipush 8, 2) := by decide +kernel
theorem dX1_add_33 : decode cX1_add 33 = .ok (.imul, 1) := by decide +kernel
theorem dX1_add_34 : decode cX1_add 34 = .ok (.iload 4, 2) := by decide +kernel
theorem dX1_add_36 : decode cX1_add 36 = .ok (.iadd, 1) := by decide +kernel
theorem dX1_add_37 : decode cX1_add 37 = .ok (.aload_n 1, 1) := by decide +kernel
theorem dX1_add_38 : decode cX1_add 38 = .ok (.iload 4, 2) := by decide +kernel
theorem dX1_add_40 : decode cX1_add 40 = .ok (.invokestatic 31, 3) := by decide +kernel
theorem dX1_add_43 : decode cX1_add 43 = .ok (.invokestatic 39, 3) := by decide +kernel
theorem dX1_add_46 : decode cX1_add 46 = .ok (.iinc 4 1, 3) := by decide +kernel
theorem dX1_add_49 : decode cX1_add 49 = .ok (.goto (-32), 3) := by decide +kernel
theorem dX1_add_52 : decode cX1_add 52 = .ok (.aload_n 0, 1) := by decide +kernel
theorem dX1_add_53 : decode cX1_add 53 = .ok (.getfield 15, 3) := by decide +kernel
theorem dX1_add_56 : decode cX1_add 56 = .ok (.aload_n 0, 1) := by decide +kernel
theorem dX1_add_57 : decode cX1_add 57 = .ok (.getfield 27, 3) := by decide +kernel
theorem dX1_add_60 : decode cX1_add 60 = .ok (.iload_n 2, 1) := by decide +kernel
theorem dX1_add_61 : decode cX1_add 61 = .ok (.invokestatic 39, 3) := by decide +kernel
theorem dX1_add_64 : decode cX1_add 64 = .ok (.aload_n 0, 1) := by decide +kernel
theorem dX1_add_65 : decode cX1_add 65 = .ok (.getfield 18, 3) := by decide +kernel
theorem dX1_add_68 : decode cX1_add 68 = .ok (.aload_n 0, 1) := by decide +kernel
theorem dX1_add_69 : decode cX1_add 69 = .ok (.getfield 27, 3) := by decide +kernel
theorem dX1_add_72 : decode cX1_add 72 = .ok (.iload_n 3, 1) := by decide +kernel
theorem dX1_add_73 : decode cX1_add 73 = .ok (.invokestatic 39, 3) := by decide +kernel
theorem dX1_add_76 : decode cX1_add 76 = .ok (.aload_n 0, 1) := by decide +kernel
theorem dX1_add_77 : decode cX1_add 77 = .ok (.dup, 1) := by decide +kernel
theorem dX1_add_78 : decode cX1_add 78 = .ok (.getfield 27, 3) := by decide +kernel
theorem dX1_add_81 : decode cX1_add 81 = .ok (.iconst 1, 1) := by decide +kernel
theorem dX1_add_82 : decode cX1_add 82 = .ok (.iadd, 1) := by decide +kernel
theorem dX1_add_83 : decode cX1_add 83 = .ok (.putfield 27, 3) := by decide +kernel
theorem dX1_add_86 : decode cX1_add 86 = .ok (.return_, 1) := by decide +kernel
theorem dX1_remove_0 : decode cX1_remove 0 = .ok (.iload_n 1, 1) := by decide +kernel
theorem dX1_remove_1 : decode cX1_remove 1 = .ok (.istore_n 2, 1) := by decide +kernel
theorem dX1_remove_2 : decode cX1_remove 2 = .ok (.iload_n 2, 1) := by decide +kernel
theorem dX1_remove_3 : decode cX1_remove 3 = .ok (.iconst 1, 1) := by decide +kernel
theorem dX1_remove_4 : decode cX1_remove 4 = .ok (.iadd, 1) := by decide +kernel
theorem dX1_remove_5 : decode cX1_remove 5 = .ok (.aload_n 0, 1) := by decide +kernel
theorem dX1_remove_6 : decode cX1_remove 6 = .ok (.getfield 27, 3) := by decide +kernel
theorem dX1_remove_9 : decode cX1_remove 9 = .ok (.if_icmp .ge 80, 3) := by decide +kernel
theorem dX1_remove_12 : decode cX1_remove 12 = .ok (.iconst 0, 1) := by decide +kernel
theorem dX1_remove_13 : decode cX1_remove 13 = .ok (.istore_n 3, 1) := by decide +kernel
theorem dX1_remove_14 : decode cX1_remove 14 = .ok (.iload_n 3, 1) := by decide +kernel
theorem dX1_remove_15 : decode cX1_remove 15 = .ok (.bipush 8, 2) := by decide +kernel
theorem dX1_remove_17 : decode cX1_remove 17 = .ok (.if_icmp .ge 30, 3) := by decide +kernel
theorem dX1_remove_20 : decode cX1_remove 20 = .ok (.aload_n 0, 1) := by decide +kernel
theorem dX1_remove_21 : decode cX1_remove 21 = .ok (.getfield 9, 3) := by decide +kernel
theorem dX1_remove_24 : decode cX1_remove 24 = .ok (.iload_n 2, 1) := by decide +kernel
theorem dX1_remove_25 : decode cX1_remove 25 = .ok (.bipush 8, 2) := by decide +kernel
theorem dX1_remove_27 : decode cX1_remove 27 = .ok (.imul, 1) := by decide +kernel
theorem dX1_remove_28 : decode cX1_remove 28 = .ok (.iload_n 3, 1) := by decide +kernel
theorem dX1_remove_29 : decode cX1_remove 29 = .ok (.iadd, 1) := by decide +kernel
theorem dX1_remove_30 : decode cX1_remove 30 = .ok (.aload_n 0, 1) := by decide +kernel
theorem dX1_remove_31 : decode cX1_remove 31 = .ok (.iload_n 2, 1) := by decide +kernel
theorem dX1_remove_32 : decode cX1_remove 32 = .ok (.iconst 1, 1) := by decide +kernel
theorem dX1_remove_33 : decode cX1_remove 33 = .ok (.iadd, 1) := by decide +kernel
theorem dX1_remove_34 : decode cX1_remove 34 = .ok (.iload_n 3, 1) := by decide +kernel
theorem dX1_remove_35 : decode cX1_remove 35 = .ok (.invokevirtual 43, 3) := by decide +kernel
theorem dX1_remove_38 : decode cX1_remove 38 = .ok (.invokestatic 39, 3) := by decide +kernel
theorem dX1_remove_41 : decode cX1_remove 41 = .ok (.iinc 3 1, 3) := by decide +kernel
theorem dX1_remove_44 : decode cX1_remove 44 = .ok (.goto (-30), 3) := by decide +kernel
theorem dX1_remove_47 : decode cX1_remove 47 = .ok (.aload_n 0, 1) := by decide +kernel
theorem dX1_remove_48 : decode cX1_remove 48 = .ok (.getfield 15, 3) := by decide +kernel
theorem dX1_remove_51 : decode cX1_remove 51 = .ok (.iload_n 2, 1) := by decide +kernel
theorem dX1_remove_52 : decode cX1_remove 52 = .ok (.aload_n 0, 1) := by decide +kernel
theorem dX1_remove_53 : decode cX1_remove 53 = .ok (.getfield 15, 3) := by decide +kernel
theorem dX1_remove_56 : decode cX1_remove 56 = .ok (.iload_n 2, 1) := by decide +kernel
theorem dX1_remove_57 : decode cX1_remove 57 = .ok (.iconst 1, 1) := by decide +kernel
theorem dX1_remove_58 : decode cX1_remove 58 = .ok (.iadd, 1) := by decide +kernel
theorem dX1_remove_59 : decode cX1_remove 59 = .ok (.invokestatic 31, 3) := by decide +kernel
theorem dX1_remove_62 : decode cX1_remove 62 = .ok (.invokestatic 39, 3) := by decide +kernel
theorem dX1_remove_65 : decode cX1_remove 65 = .ok (.aload_n 0, 1) := by decide +kernel
theorem dX1_remove_66 : decode cX1_remove 66 = .ok (.getfield 18, 3) := by decide +kernel
theorem dX1_remove_69 : decode cX1_remove 69 = .ok (.iload_n 2, 1) := by decide +kernel
theorem dX1_remove_70 : decode cX1_remove 70 = .ok (.aload_n 0, 1) := by decide +kernel
theorem dX1_remove_71 : decode cX1_remove 71 = .ok (.getfield 18, 3) := by decide +kernel
theorem dX1_remove_74 : decode cX1_remove 74 = .ok (.iload_n 2, 1) := by decide +kernel
theorem dX1_remove_75 : decode cX1_remove 75 = .ok (.iconst 1, 1) := by decide +kernel
theorem dX1_remove_76 : decode cX1_remove 76 = .ok (.iadd, 1) := by decide +kernel
theorem dX1_remove_77 : decode cX1_remove 77 = .ok (.invokestatic 31, 3) := by decide +kernel
theorem dX1_remove_80 : decode cX1_remove 80 = .ok (.invokestatic 39, 3) := by decide +kernel
theorem dX1_remove_83 : decode cX1_remove 83 = .ok (.iinc 2 1, 3) := by decide +kernel
theorem dX1_remove_86 : decode cX1_remove 86 = .ok (.goto (-84), 3) := by decide +kernel
theorem dX1_remove_89 : decode cX1_remove 89 = .ok (.aload_n 0, 1) := by decide +kernel
theorem dX1_remove_90 : decode cX1_remove 90 = .ok (.dup, 1) := by decide +kernel
theorem dX1_remove_91 : decode cX1_remove 91 = .ok (.getfield 27, 3) := by decide +kernel
theorem dX1_remove_94 : decode cX1_remove 94 = .ok (.iconst 1, 1) := by decide +kernel
theorem dX1_remove_95 : decode cX1_remove 95 = .ok (.isub, 1) := by decide +kernel
theorem dX1_remove_96 : decode cX1_remove 96 = .ok (.putfield 27, 3) := by decide +kernel
theorem dX1_remove_99 : decode cX1_remove 99 = .ok (.return_, 1) := by decide +kernel
theorem dX2_at_0 : decode cX2_at 0 = .ok (.iload_n 1, 1) := by decide +kernel
theorem dX2_at_1 : decode cX2_at 1 = .ok (.ifCond .lt 15, 3) := by decide +kernel
theorem dX2_at_4 : decode cX2_at 4 = .ok (.iload_n 1, 1) := by decide +kernel
theorem dX2_at_5 : decode cX2_at 5 = .ok (.aload_n 0, 1) := by decide +kernel
theorem dX2_at_6 : decode cX2_at 6 = .ok (.arraylength, 1) := by decide +kernel
theorem dX2_at_7 : decode cX2_at 7 = .ok (.if_icmp .ge 9, 3) := by decide +kernel
theorem dX2_at_10 : decode cX2_at 10 = .ok (.aload_n 0, 1) := by decide +kernel
theorem dX2_at_11 : decode cX2_at 11 = .ok (.iload_n 1, 1) := by decide +kernel
theorem dX2_at_12 : decode cX2_at 12 = .ok (.iaload, 1) := by decide +kernel
theorem dX2_at_13 : decode cX2_at 13 = .ok (.goto 4, 3) := by decide +kernel
theorem dX2_at_16 : decode cX2_at 16 = .ok (.iconst 0, 1) := by decide +kernel
theorem dX2_at_17 : decode cX2_at 17 = .ok (.ireturn, 1) := by decide +kernel
theorem dX2_put_0 : decode cX2_put 0 = .ok (.iload_n 1, 1) := by decide +kernel
theorem dX2_put_1 : decode cX2_put 1 = .ok (.ifCond .lt 13, 3) := by decide +kernel
theorem dX2_put_4 : decode cX2_put 4 = .ok (.iload_n 1, 1) := by decide +kernel
theorem dX2_put_5 : decode cX2_put 5 = .ok (.aload_n 0, 1) := by decide +kernel
theorem dX2_put_6 : decode cX2_put 6 = .ok (.arraylength, 1) := by decide +kernel
theorem dX2_put_7 : decode cX2_put 7 = .ok (.if_icmp .ge 7, 3) := by decide +kernel
theorem dX2_put_10 : decode cX2_put 10 = .ok (.aload_n 0, 1) := by decide +kernel
theorem dX2_put_11 : decode cX2_put 11 = .ok (.iload_n 1, 1) := by decide +kernel
theorem dX2_put_12 : decode cX2_put 12 = .ok (.iload_n 2, 1) := by decide +kernel
theorem dX2_put_13 : decode cX2_put 13 = .ok (.iastore, 1) := by decide +kernel
theorem dX2_put_14 : decode cX2_put 14 = .ok (.return_, 1) := by decide +kernel
theorem dX2_copy_0 : decode cX2_copy 0 = .ok (.iconst 0, 1) := by decide +kernel
theorem dX2_copy_1 : decode cX2_copy 1 = .ok (.istore_n 2, 1) := by decide +kernel
theorem dX2_copy_2 : decode cX2_copy 2 = .ok (.iload_n 2, 1) := by decide +kernel
theorem dX2_copy_3 : decode cX2_copy 3 = .ok (.aload_n 0, 1) := by decide +kernel
theorem dX2_copy_4 : decode cX2_copy 4 = .ok (.arraylength, 1) := by decide +kernel
theorem dX2_copy_5 : decode cX2_copy 5 = .ok (.if_icmp .ge 21, 3) := by decide +kernel
theorem dX2_copy_8 : decode cX2_copy 8 = .ok (.iload_n 2, 1) := by decide +kernel
theorem dX2_copy_9 : decode cX2_copy 9 = .ok (.aload_n 1, 1) := by decide +kernel
theorem dX2_copy_10 : decode cX2_copy 10 = .ok (.arraylength, 1) := by decide +kernel
theorem dX2_copy_11 : decode cX2_copy 11 = .ok (.if_icmp .ge 15, 3) := by decide +kernel
theorem dX2_copy_14 : decode cX2_copy 14 = .ok (.aload_n 1, 1) := by decide +kernel
theorem dX2_copy_15 : decode cX2_copy 15 = .ok (.iload_n 2, 1) := by decide +kernel
theorem dX2_copy_16 : decode cX2_copy 16 = .ok (.aload_n 0, 1) := by decide +kernel
theorem dX2_copy_17 : decode cX2_copy 17 = .ok (.iload_n 2, 1) := by decide +kernel
theorem dX2_copy_18 : decode cX2_copy 18 = .ok (.iaload, 1) := by decide +kernel
theorem dX2_copy_19 : decode cX2_copy 19 = .ok (.iastore, 1) := by decide +kernel
theorem dX2_copy_20 : decode cX2_copy 20 = .ok (.iinc 2 1, 3) := by decide +kernel
theorem dX2_copy_23 : decode cX2_copy 23 = .ok (.goto (-21), 3) := by decide +kernel
theorem dX2_copy_26 : decode cX2_copy 26 = .ok (.return_, 1) := by decide +kernel
theorem dX2_clear_0 : decode cX2_clear 0 = .ok (.iconst 0, 1) := by decide +kernel
theorem dX2_clear_1 : decode cX2_clear 1 = .ok (.istore_n 1, 1) := by decide +kernel
theorem dX2_clear_2 : decode cX2_clear 2 = .ok (.iload_n 1, 1) := by decide +kernel
theorem dX2_clear_3 : decode cX2_clear 3 = .ok (.aload_n 0, 1) := by decide +kernel
theorem dX2_clear_4 : decode cX2_clear 4 = .ok (.arraylength, 1) := by decide +kernel
theorem dX2_clear_5 : decode cX2_clear 5 = .ok (.if_icmp .ge 13, 3) := by decide +kernel
theorem dX2_clear_8 : decode cX2_clear 8 = .ok (.aload_n 0, 1) := by decide +kernel
theorem dX2_clear_9 : decode cX2_clear 9 = .ok (.iload_n 1, 1) := by decide +kernel
theorem dX2_clear_10 : decode cX2_clear 10 = .ok (.iconst 0, 1) := by decide +kernel
theorem dX2_clear_11 : decode cX2_clear 11 = .ok (.iastore, 1) := by decide +kernel
theorem dX2_clear_12 : decode cX2_clear 12 = .ok (.iinc 1 1, 3) := by decide +kernel
theorem dX2_clear_15 : decode cX2_clear 15 = .ok (.goto (-13), 3) := by decide +kernel
theorem dX2_clear_18 : decode cX2_clear 18 = .ok (.return_, 1) := by decide +kernel
theorem dX3_init_0 : decode cX3_init 0 = .ok (.aload_n 0, 1) := by decide +kernel
theorem dX3_init_1 : decode cX3_init 1 = .ok (.invokespecial 3, 3) := by decide +kernel
theorem dX3_init_4 : decode cX3_init 4 = .ok (.aload_n 0, 1) := by decide +kernel
theorem dX3_init_5 : decode cX3_init 5 = .ok (.bipush 6, 2) := by decide +kernel
theorem dX3_init_7 : decode cX3_init 7 = .ok (.anewarray 9, 3) := by decide +kernel
theorem dX3_init_10 : decode cX3_init 10 = .ok (.putfield 11, 3) := by decide +kernel
theorem dX3_init_13 : decode cX3_init 13 = .ok (.iconst 0, 1) := by decide +kernel
theorem dX3_init_14 : decode cX3_init 14 = .ok (.istore_n 1, 1) := by decide +kernel
theorem dX3_init_15 : decode cX3_init 15 = .ok (.iload_n 1, 1) := by decide +kernel
theorem dX3_init_16 : decode cX3_init 16 = .ok (.aload_n 0, 1) := by decide +kernel
theorem dX3_init_17 : decode cX3_init 17 = .ok (.getfield 11, 3) := by decide +kernel
theorem dX3_init_20 : decode cX3_init 20 = .ok (.arraylength, 1) := by decide +kernel
theorem dX3_init_21 : decode cX3_init 21 = .ok (.if_icmp .ge 22, 3) := by decide +kernel
theorem dX3_init_24 : decode cX3_init 24 = .ok (.aload_n 0, 1) := by decide +kernel
theorem dX3_init_25 : decode cX3_init 25 = .ok (.getfield 11, 3) := by decide +kernel
theorem dX3_init_28 : decode cX3_init 28 = .ok (.iload_n 1, 1) := by decide +kernel
theorem dX3_init_29 : decode cX3_init 29 = .ok (.new 9, 3) := by decide +kernel
theorem dX3_init_32 : decode cX3_init 32 = .ok (.dup, 1) := by decide +kernel
theorem dX3_init_33 : decode cX3_init 33 = .ok (.invokespecial 17, 3) := by decide +kernel
theorem dX3_init_36 : decode cX3_init 36 = .ok (.aastore, 1) := by decide +kernel
theorem dX3_init_37 : decode cX3_init 37 = .ok (.iinc 1 1, 3) := by decide +kernel
theorem dX3_init_40 : decode cX3_init 40 = .ok (.goto (-25), 3) := by decide +kernel
theorem dX3_init_43 : decode cX3_init 43 = .ok (.return_, 1) := by decide +kernel
theorem dX3_push_0 : decode cX3_push 0 = .ok (.aload_n 0, 1) := by decide +kernel
theorem dX3_push_1 : decode cX3_push 1 = .ok (.aload_n 0, 1) := by decide +kernel
theorem dX3_push_2 : decode cX3_push 2 = .ok (.getfield 18, 3) := by decide +kernel
theorem dX3_push_5 : decode cX3_push 5 = .ok (.invokevirtual 22, 3) := by decide +kernel
theorem dX3_push_8 : decode cX3_push 8 = .ok (.astore_n 2, 1) := by decide +kernel
theorem dX3_push_9 : decode cX3_push 9 = .ok (.aload_n 2, 1) := by decide +kernel
theorem dX3_push_10 : decode cX3_push 10 = .ok (.ifnonnull 4, 3) := by decide +kernel
theorem dX3_push_13 : decode cX3_push 13 = .ok (.return_, 1) := by decide +kernel
theorem dX3_push_14 : decode cX3_push 14 = .ok (.aload_n 2, 1) := by decide +kernel
theorem dX3_push_15 : decode cX3_push 15 = .ok (.aload_n 1, 1) := by decide +kernel
theorem dX3_push_16 : decode cX3_push 16 = .ok (.invokevirtual 26, 3) := by decide +kernel
theorem dX3_push_19 : decode cX3_push 19 = .ok (.aload_n 0, 1) := by decide +kernel
theorem dX3_push_20 : decode cX3_push 20 = .ok (.aload_n 0, 1) := by decide +kernel
theorem dX3_push_21 : decode cX3_push 21 = .ok (.getfield 18, 3) := by decide +kernel
theorem dX3_push_24 : decode cX3_push 24 = .ok (.iconst 1, 1) := by decide +kernel
theorem dX3_push_25 : decode cX3_push 25 = .ok (.iadd, 1) := by decide +kernel
theorem dX3_push_26 : decode cX3_push 26 = .ok (.bipush 6, 2) := by decide +kernel
theorem dX3_push_28 : decode cX3_push 28 = .ok (.if_icmp .ge 12, 3) := by decide +kernel
theorem dX3_push_31 : decode cX3_push 31 = .ok (.aload_n 0, 1) := by decide +kernel
theorem dX3_push_32 : decode cX3_push 32 = .ok (.getfield 18, 3) := by decide +kernel
theorem dX3_push_35 : decode cX3_push 35 = .ok (.iconst 1, 1) := by decide +kernel
theorem dX3_push_36 : decode cX3_push 36 = .ok (.iadd, 1) := by decide +kernel
theorem dX3_push_37 : decode cX3_push 37 = .ok (.goto 4, 3) := by decide +kernel
theorem dX3_push_40 : decode cX3_push 40 = .ok (.iconst 0, 1) := by decide +kernel
theorem dX3_push_41 : decode cX3_push 41 = .ok (.putfield 18, 3) := by decide +kernel
theorem dX3_push_44 : decode cX3_push 44 = .ok (.aload_n 0, 1) := by decide +kernel
theorem dX3_push_45 : decode cX3_push 45 = .ok (.aload_n 0, 1) := by decide +kernel
theorem dX3_push_46 : decode cX3_push 46 = .ok (.getfield 30, 3) := by decide +kernel
theorem dX3_push_49 : decode cX3_push 49 = .ok (.iconst 1, 1) := by decide +kernel
theorem dX3_push_50 : decode cX3_push 50 = .ok (.iadd, 1) := by decide +kernel
theorem dX3_push_51 : decode cX3_push 51 = .ok (.bipush 6, 2) := by decide +kernel
theorem dX3_push_53 : decode cX3_push 53 = .ok (.invokestatic 33, 3) := by decide +kernel
theorem dX3_push_56 : decode cX3_push 56 = .ok (.putfield 30, 3) := by decide +kernel
theorem dX3_push_59 : decode cX3_push 59 = .ok (.return_, 1) := by decide +kernel
theorem dX3_popInto_0 : decode cX3_popInto 0 = .ok (.aload_n 0, 1) := by decide +kernel
theorem dX3_popInto_1 : decode cX3_popInto 1 = .ok (.getfield 18, 3) := by decide +kernel
theorem dX3_popInto_4 : decode cX3_popInto 4 = .ok (.ifCond .le 12, 3) := by decide +kernel
theorem dX3_popInto_7 : decode cX3_popInto 7 = .ok (.aload_n 0, 1) := by decide +kernel
theorem dX3_popInto_8 : decode cX3_popInto 8 = .ok (.getfield 18, 3) := by decide +kernel
theorem dX3_popInto_11 : decode cX3_popInto 11 = .ok (.iconst 1, 1) := by decide +kernel
theorem dX3_popInto_12 : decode cX3_popInto 12 = .ok (.isub, 1) := by decide +kernel
theorem dX3_popInto_13 : decode cX3_popInto 13 = .ok (.goto 4, 3) := by decide +kernel
theorem dX3_popInto_16 : decode cX3_popInto 16 = .ok (.iconst 5, 1) := by decide +kernel
theorem dX3_popInto_17 : decode cX3_popInto 17 = .ok (.istore_n 2, 1) := by decide +kernel
theorem dX3_popInto_18 : decode cX3_popInto 18 = .ok (.aload_n 0, 1) := by decide +kernel
theorem dX3_popInto_19 : decode cX3_popInto 19 = .ok (.iload_n 2, 1) := by decide +kernel
theorem dX3_popInto_20 : decode cX3_popInto 20 = .ok (.invokevirtual 22, 3) := by decide +kernel
theorem dX3_popInto_23 : decode cX3_popInto 23 = .ok (.astore_n 3, 1) := by decide +kernel
theorem dX3_popInto_24 : decode cX3_popInto 24 = .ok (.aload_n 0, 1) := by decide +kernel
theorem dX3_popInto_25 : decode cX3_popInto 25 = .ok (.getfield 30, 3) := by decide +kernel
theorem dX3_popInto_28 : decode cX3_popInto 28 = .ok (.ifCond .eq 7, 3) := by decide +kernel
theorem dX3_popInto_31 : decode cX3_popInto 31 = .ok (.aload_n 3, 1) := by decide +kernel
theorem dX3_popInto_32 : decode cX3_popInto 32 = .ok (.ifnonnull 4, 3) := by decide +kernel
theorem dX3_popInto_35 : decode cX3_popInto 35 = .ok (.return_, 1) := by decide +kernel
theorem dX3_popInto_36 : decode cX3_popInto 36 = .ok (.aload_n 1, 1) := by decide +kernel
theorem dX3_popInto_37 : decode cX3_popInto 37 = .ok (.aload_n 3, 1) := by decide +kernel
theorem dX3_popInto_38 : decode cX3_popInto 38 = .ok (.invokevirtual 26, 3) := by decide +kernel
theorem dX3_popInto_41 : decode cX3_popInto 41 = .ok (.aload_n 0, 1) := by decide +kernel
theorem dX3_popInto_42 : decode cX3_popInto 42 = .ok (.iload_n 2, 1) := by decide +kernel
theorem dX3_popInto_43 : decode cX3_popInto 43 = .ok (.putfield 18, 3) := by decide +kernel
theorem dX3_popInto_46 : decode cX3_popInto 46 = .ok (.aload_n 0, 1) := by decide +kernel
theorem dX3_popInto_47 : decode cX3_popInto 47 = .ok (.dup, 1) := by decide +kernel
theorem dX3_popInto_48 : decode cX3_popInto 48 = .ok (.getfield 30, 3) := by decide +kernel
theorem dX3_popInto_51 : decode cX3_popInto 51 = .ok (.iconst 1, 1) := by decide +kernel
theorem dX3_popInto_52 : decode cX3_popInto 52 = .ok (.isub, 1) := by decide +kernel
theorem dX3_popInto_53 : decode cX3_popInto 53 = .ok (.putfield 30, 3) := by decide +kernel
theorem dX3_popInto_56 : decode cX3_popInto 56 = .ok (.return_, 1) := by decide +kernel
theorem dX3_stateAt_0 : decode cX3_stateAt 0 = .ok (.iload_n 1, 1) := by decide +kernel
theorem dX3_stateAt_1 : decode cX3_stateAt 1 = .ok (.ifCond .lt 21, 3) := by decide +kernel
theorem dX3_stateAt_4 : decode cX3_stateAt 4 = .ok (.iload_n 1, 1) := by decide +kernel
theorem dX3_stateAt_5 : decode cX3_stateAt 5 = .ok (.aload_n 0, 1) := by decide +kernel
theorem dX3_stateAt_6 : decode cX3_stateAt 6 = .ok (.getfield 11, 3) := by decide +kernel
theorem dX3_stateAt_9 : decode cX3_stateAt 9 = .ok (.arraylength, 1) := by decide +kernel
theorem dX3_stateAt_10 : decode cX3_stateAt 10 = .ok (.if_icmp .ge 12, 3) := by decide +kernel
theorem dX3_stateAt_13 : decode cX3_stateAt 13 = .ok (.aload_n 0, 1) := by decide +kernel
theorem dX3_stateAt_14 : decode cX3_stateAt 14 = .ok (.getfield 11, 3) := by decide +kernel
theorem dX3_stateAt_17 : decode cX3_stateAt 17 = .ok (.iload_n 1, 1) := by decide +kernel
theorem dX3_stateAt_18 : decode cX3_stateAt 18 = .ok (.aaload, 1) := by decide +kernel
theorem dX3_stateAt_19 : decode cX3_stateAt 19 = .ok (.goto 4, 3) := by decide +kernel
theorem dX3_stateAt_22 : decode cX3_stateAt 22 = .ok (.aconst_null, 1) := by decide +kernel
theorem dX3_stateAt_23 : decode cX3_stateAt 23 = .ok (.areturn, 1) := by decide +kernel
theorem dX4_init_0 : decode cX4_init 0 = .ok (.aload_n 0, 1) := by decide +kernel
theorem dX4_init_1 : decode cX4_init 1 = .ok (.invokespecial 1, 3) := by decide +kernel
theorem dX4_init_4 : decode cX4_init 4 = .ok (.aload_n 0, 1) := by decide +kernel
theorem dX4_init_5 : decode cX4_init 5 = .ok (.new 7, 3) := by decide +kernel
theorem dX4_init_8 : decode cX4_init 8 = .ok (.dup, 1) := by decide +kernel
theorem dX4_init_9 : decode cX4_init 9 = .ok (.invokespecial 9, 3) := by decide +kernel
theorem dX4_init_12 : decode cX4_init 12 = .ok (.putfield 10, 3) := by decide +kernel
theorem dX4_init_15 : decode cX4_init 15 = .ok (.return_, 1) := by decide +kernel
theorem dX5_init_0 : decode cX5_init 0 = .ok (.aload_n 0, 1) := by decide +kernel
theorem dX5_init_1 : decode cX5_init 1 = .ok (.invokespecial 3, 3) := by decide +kernel
theorem dX5_init_4 : decode cX5_init 4 = .ok (.aload_n 0, 1) := by decide +kernel
theorem dX5_init_5 : decode cX5_init 5 = .ok (.iconst 4, 1) := by decide +kernel
theorem dX5_init_6 : decode cX5_init 6 = .ok (.putfield 9, 3) := by decide +kernel
theorem dX5_init_9 : decode cX5_init 9 = .ok (.aload_n 0, 1) := by decide +kernel
theorem dX5_init_10 : decode cX5_init 10 = .ok (.bipush 100, 2) := by decide +kernel
theorem dX5_init_12 : decode cX5_init 12 = .ok (.putfield 15, 3) := by decide +kernel
theorem dX5_init_15 : decode cX5_init 15 = .ok (.aload_n 0, 1) := by decide +kernel
theorem dX5_init_16 : decode cX5_init 16 = .ok (.getstatic 18, 3) := by decide +kernel
theorem dX5_init_19 : decode cX5_init 19 = .ok (.invokevirtual 22, 3) := by decide +kernel
theorem dX5_init_22 : decode cX5_init 22 = .ok (.checkcast 23, 3) := by decide +kernel
theorem dX5_init_25 : decode cX5_init 25 = .ok (.putfield 27, 3) := by decide +kernel
theorem dX5_init_28 : decode cX5_init 28 = .ok (.aload_n 0, 1) := by decide +kernel
theorem dX5_init_29 : decode cX5_init 29 = .ok (.bipush 8, 2) := by decide +kernel
theorem dX5_init_31 : decode cX5_init 31 = .ok (.newarray .int, 2) := by decide +kernel
theorem dX5_init_33 : decode cX5_init 33 = .ok (.putfield 30, 3) := by decide +kernel
theorem dX5_init_36 : decode cX5_init 36 = .ok (.aload_n 0, 1) := by decide +kernel
theorem dX5_init_37 : decode cX5_init 37 = .ok (.bipush 8, 2) := by decide +kernel
theorem dX5_init_39 : decode cX5_init 39 = .ok (.newarray .int, 2) := by decide +kernel
theorem dX5_init_41 : decode cX5_init 41 = .ok (.putfield 33, 3) := by decide +kernel
theorem dX5_init_44 : decode cX5_init 44 = .ok (.aload_n 0, 1) := by decide +kernel
theorem dX5_init_45 : decode cX5_init 45 = .ok (.bipush 8, 2) := by decide +kernel
theorem dX5_init_47 : decode cX5_init 47 = .ok (.newarray .int, 2) := by decide +kernel
theorem dX5_init_49 : decode cX5_init 49 = .ok (.putfield 36, 3) := by decide +kernel
theorem dX5_init_52 : decode cX5_init 52 = .ok (.aload_n 0, 1) := by decide +kernel
theorem dX5_init_53 : decode cX5_init 53 = .ok (.bipush 8, 2) := by decide +kernel
theorem dX5_init_55 : decode cX5_init 55 = .ok (.newarray .int, 2) := by decide +kernel
theorem dX5_init_57 : decode cX5_init 57 = .ok (.putfield 39, 3) := by decide +kernel
theorem dX5_init_60 : decode cX5_init 60 = .ok (.aload_n 0, 1) := by decide +kernel
theorem dX5_init_61 : decode cX5_init 61 = .ok (.new 42, 3) := by decide +kernel
theorem dX5_init_64 : decode cX5_init 64 = .ok (.dup, 1) := by decide +kernel
theorem dX5_init_65 : decode cX5_init 65 = .ok (.invokespecial 44, 3) := by decide +kernel
theorem dX5_init_68 : decode cX5_init 68 = .ok (.putfield 45, 3) := by decide +kernel
theorem dX5_init_71 : decode cX5_init 71 = .ok (.iconst 0, 1) := by decide +kernel
theorem dX5_init_72 : decode cX5_init 72 = .ok (.istore_n 1, 1) := by decide +kernel
theorem dX5_init_73 : decode cX5_init 73 = .ok (.iload_n 1, 1) := by decide +kernel
theorem dX5_init_74 : decode cX5_init 74 = .ok (.aload_n 0, 1) := by decide +kernel
theorem dX5_init_75 : decode cX5_init 75 = .ok (.getfield 30, 3) := by decide +kernel
theorem dX5_init_78 : decode cX5_init 78 = .ok (.arraylength, 1) := by decide +kernel
theorem dX5_init_79 : decode cX5_init 79 = .ok (.if_icmp .ge 17, 3) := by decide +kernel
theorem dX5_init_82 : decode cX5_init 82 = .ok (.aload_n 0, 1) := by decide +kernel
theorem dX5_init_83 : decode cX5_init 83 = .ok (.getfield 30, 3) := by decide +kernel
theorem dX5_init_86 : decode cX5_init 86 = .ok (.iload_n 1, 1) := by decide +kernel
theorem dX5_init_87 : decode cX5_init 87 = .ok (.bipush 100, 2) := by decide +kernel
theorem dX5_init_89 : decode cX5_init 89 = .ok (.iastore, 1) := by decide +kernel
theorem dX5_init_90 : decode cX5_init 90 = .ok (.iinc 1 1, 3) := by decide +kernel
theorem dX5_init_93 : decode cX5_init 93 = .ok (.goto (-20), 3) := by decide +kernel
theorem dX5_init_96 : decode cX5_init 96 = .ok (.return_, 1) := by decide +kernel
theorem dX5_become_0 : decode cX5_become 0 = .ok (.aload_n 0, 1) := by decide +kernel
theorem dX5_become_1 : decode cX5_become 1 = .ok (.aload_n 1, 1) := by decide +kernel
theorem dX5_become_2 : decode cX5_become 2 = .ok (.getfield 9, 3) := by decide +kernel
theorem dX5_become_5 : decode cX5_become 5 = .ok (.putfield 9, 3) := by decide +kernel
theorem dX5_become_8 : decode cX5_become 8 = .ok (.aload_n 0, 1) := by decide +kernel
theorem dX5_become_9 : decode cX5_become 9 = .ok (.aload_n 1, 1) := by decide +kernel
theorem dX5_become_10 : decode cX5_become 10 = .ok (.getfield 15, 3) := by decide +kernel
theorem dX5_become_13 : decode cX5_become 13 = .ok (.putfield 15, 3) := by decide +kernel
theorem dX5_become_16 : decode cX5_become 16 = .ok (.aload_n 1, 1) := by decide +kernel
theorem dX5_become_17 : decode cX5_become 17 = .ok (.getfield 27, 3) := by decide +kernel
theorem dX5_become_20 : decode cX5_become 20 = .ok (.aload_n 0, 1) := by decide +kernel
theorem dX5_become_21 : decode cX5_become 21 = .ok (.getfield 27, 3) := by decide +kernel
theorem dX5_become_24 : decode cX5_become 24 = .ok (.invokestatic 49, 3) := by decide +kernel
theorem dX5_become_27 : decode cX5_become 27 = .ok (.aload_n 1, 1) := by decide +kernel
theorem dX5_become_28 : decode cX5_become 28 = .ok (.getfield 30, 3) := by decide +kernel
theorem dX5_become_31 : decode cX5_become 31 = .ok (.aload_n 0, 1) := by decide +kernel
theorem dX5_become_32 : decode cX5_become 32 = .ok (.getfield 30, 3) := by decide +kernel
theorem dX5_become_35 : decode cX5_become 35 = .ok (.invokestatic 49, 3) := by decide +kernel
theorem dX5_become_38 : decode cX5_become 38 = .ok (.aload_n 1, 1) := by decide +kernel
theorem dX5_become_39 : decode cX5_become 39 = .ok (.getfield 33, 3) := by decide +kernel
theorem dX5_become_42 : decode cX5_become 42 = .ok (.aload_n 0, 1) := by decide +kernel
theorem dX5_become_43 : decode cX5_become 43 = .ok (.getfield 33, 3) := by decide +kernel
theorem dX5_become_46 : decode cX5_become 46 = .ok (.invokestatic 49, 3) := by decide +kernel
theorem dX5_become_49 : decode cX5_become 49 = .ok (.aload_n 1, 1) := by decide +kernel
theorem dX5_become_50 : decode cX5_become 50 = .ok (.getfield 36, 3) := by decide +kernel
theorem dX5_become_53 : decode cX5_become 53 = .ok (.aload_n 0, 1) := by decide +kernel
theorem dX5_become_54 : decode cX5_become 54 = .ok (.getfield 36, 3) := by decide +kernel
theorem dX5_become_57 : decode cX5_become 57 = .ok (.invokestatic 49, 3) := by decide +kernel
theorem dX5_become_60 : decode cX5_become 60 = .ok (.aload_n 1, 1) := by decide +kernel
theorem dX5_become_61 : decode cX5_become 61 = .ok (.getfield 39, 3) := by decide +kernel
theorem dX5_become_64 : decode cX5_become 64 = .ok (.aload_n 0, 1) := by decide +kernel
theorem dX5_become_65 : decode cX5_become 65 = .ok (.getfield 39, 3) := by decide +kernel
theorem dX5_become_68 : decode cX5_become 68 = .ok (.invokestatic 49, 3) := by decide +kernel
theorem dX5_become_71 : decode cX5_become 71 = .ok (.aload_n 0, 1) := by decide +kernel
theorem dX5_become_72 : decode cX5_become 72 = .ok (.getfield 45, 3) := by decide +kernel
theorem dX5_become_75 : decode cX5_become 75 = .ok (.aload_n 1, 1) := by decide +kernel
theorem dX5_become_76 : decode cX5_become 76 = .ok (.getfield 45, 3) := by decide +kernel
theorem dX5_become_79 : decode cX5_become 79 = .ok (.invokevirtual 55, 3) := by decide +kernel
theorem dX5_become_82 : decode cX5_become 82 = .ok (.aload_n 0, 1) := by decide +kernel
theorem dX5_become_83 : decode cX5_become 83 = .ok (.aload_n 1, 1) := by decide +kernel
theorem dX5_become_84 : decode cX5_become 84 = .ok (.getfield 59, 3) := by decide +kernel
theorem dX5_become_87 : decode cX5_become 87 = .ok (.putfield 59, 3) := by decide +kernel
theorem dX5_become_90 : decode cX5_become 90 = .ok (.aload_n 0, 1) := by decide +kernel
theorem dX5_become_91 : decode cX5_become 91 = .ok (.aload_n 1, 1) := by decide +kernel
theorem dX5_become_92 : decode cX5_become 92 = .ok (.getfield 62, 3) := by decide +kernel
theorem dX5_become_95 : decode cX5_become 95 = .ok (.putfield 62, 3) := by decide +kernel
theorem dX5_become_98 : decode cX5_become 98 = .ok (.aload_n 0, 1) := by decide +kernel
theorem dX5_become_99 : decode cX5_become 99 = .ok (.aload_n 1, 1) := by decide +kernel
theorem dX5_become_100 : decode cX5_become 100 = .ok (.getfield 65, 3) := by decide +kernel
theorem dX5_become_103 : decode cX5_become 103 = .ok (.putfield 65, 3) := by decide +kernel
theorem dX5_become_106 : decode cX5_become 106 = .ok (.return_, 1) := by decide +kernel
theorem dX5_putRake_0 : decode cX5_putRake 0 = .ok (.aload_n 0, 1) := by decide +kernel
theorem dX5_putRake_1 : decode cX5_putRake 1 = .ok (.dup, 1) := by decide +kernel
theorem dX5_putRake_2 : decode cX5_putRake 2 = .ok (.getfield 65, 3) := by decide +kernel
theorem dX5_putRake_5 : decode cX5_putRake 5 = .ok (.aload_n 0, 1) := by decide +kernel
theorem dX5_putRake_6 : decode cX5_putRake 6 = .ok (.invokevirtual 68, 3) := by decide +kernel
theorem dX5_putRake_9 : decode cX5_putRake 9 = .ok (.iadd, 1) := by decide +kernel
theorem dX5_putRake_10 : decode cX5_putRake 10 = .ok (.putfield 65, 3) := by decide +kernel
theorem dX5_putRake_13 : decode cX5_putRake 13 = .ok (.iconst 0, 1) := by decide +kernel
theorem dX5_putRake_14 : decode cX5_putRake 14 = .ok (.istore_n 2, 1) := by decide +kernel
theorem dX5_putRake_15 : decode cX5_putRake 15 = .ok (.iload_n 2, 1) := by decide +kernel
theorem dX5_putRake_16 : decode cX5_putRake 16 = .ok (.bipush 8, 2) := by decide +kernel
theorem dX5_putRake_18 : decode cX5_putRake 18 = .ok (.if_icmp .ge 23, 3) := by decide +kernel
theorem dX5_putRake_21 : decode cX5_putRake 21 = .ok (.aload_n 0, 1) := by decide +kernel
theorem dX5_putRake_22 : decode cX5_putRake 22 = .ok (.iload_n 2, 1) := by decide +kernel
theorem dX5_putRake_23 : decode cX5_putRake 23 = .ok (.invokevirtual 72, 3) := by decide +kernel
theorem dX5_putRake_26 : decode cX5_putRake 26 = .ok (.aload_n 0, 1) := by decide +kernel
theorem dX5_putRake_27 : decode cX5_putRake 27 = .ok (.getfield 39, 3) := by decide +kernel
theorem dX5_putRake_30 : decode cX5_putRake 30 = .ok (.iload_n 2, 1) := by decide +kernel
theorem dX5_putRake_31 : decode cX5_putRake 31 = .ok (.iconst 0, 1) := by decide +kernel
theorem dX5_putRake_32 : decode cX5_putRake 32 = .ok (.invokestatic 76, 3) := by decide +kernel
theorem dX5_putRake_35 : decode cX5_putRake 35 = .ok (.iinc 2 1, 3) := by decide +kernel
theorem dX5_putRake_38 : decode cX5_putRake 38 = .ok (.goto (-23), 3) := by decide +kernel
theorem dX5_putRake_41 : decode cX5_putRake 41 = .ok (.aload_n 0, 1) := by decide +kernel
theorem dX5_putRake_42 : decode cX5_putRake 42 = .ok (.iload_n 1, 1) := by decide +kernel
theorem dX5_putRake_43 : decode cX5_putRake 43 = .ok (.putfield 9, 3) := by decide +kernel
theorem dX5_putRake_46 : decode cX5_putRake 46 = .ok (.return_, 1) := by decide +kernel
theorem dX5_clearHole_0 : decode cX5_clearHole 0 = .ok (.aload_n 0, 1) := by decide +kernel
theorem dX5_clearHole_1 : decode cX5_clearHole 1 = .ok (.getfield 30, 3) := by decide +kernel
theorem dX5_clearHole_4 : decode cX5_clearHole 4 = .ok (.iload_n 1, 1) := by decide +kernel
theorem dX5_clearHole_5 : decode cX5_clearHole 5 = .ok (.bipush 100, 2) := by decide +kernel
theorem dX5_clearHole_7 : decode cX5_clearHole 7 = .ok (.invokestatic 76, 3) := by decide +kernel
theorem dX5_clearHole_10 : decode cX5_clearHole 10 = .ok (.aload_n 0, 1) := by decide +kernel
theorem dX5_clearHole_11 : decode cX5_clearHole 11 = .ok (.getfield 33, 3) := by decide +kernel
theorem dX5_clearHole_14 : decode cX5_clearHole 14 = .ok (.iload_n 1, 1) := by decide +kernel
theorem dX5_clearHole_15 : decode cX5_clearHole 15 = .ok (.iconst 0, 1) := by decide +kernel
theorem dX5_clearHole_16 : decode cX5_clearHole 16 = .ok (.invokestatic 76, 3) := by decide +kernel
theorem dX5_clearHole_19 : decode cX5_clearHole 19 = .ok (.aload_n 0, 1) := by decide +kernel
theorem dX5_clearHole_20 : decode cX5_clearHole 20 = .ok (.getfield 36, 3) := by decide +kernel
theorem dX5_clearHole_23 : decode cX5_clearHole 23 = .ok (.iload_n 1, 1) := by decide +kernel
theorem dX5_clearHole_24 : decode cX5_clearHole 24 = .ok (.iconst 0, 1) := by decide +kernel
theorem dX5_clearHole_25 : decode cX5_clearHole 25 = .ok (.invokestatic 76, 3) := by decide +kernel
theorem dX5_clearHole_28 : decode cX5_clearHole 28 = .ok (.return_, 1) := by decide +kernel
theorem dX5_workOfCleaning_0 : decode cX5_workOfCleaning 0 = .ok (.bipush 100, 2) := by decide +kernel
theorem dX5_workOfCleaning_2 : decode cX5_workOfCleaning 2 = .ok (.aload_n 0, 1) := by decide +kernel
theorem dX5_workOfCleaning_3 : decode cX5_workOfCleaning 3 = .ok (.getfield 30, 3) := by decide +kernel
theorem dX5_workOfCleaning_6 : decode cX5_workOfCleaning 6 = .ok (.iload_n 1, 1) := by decide +kernel
theorem dX5_workOfCleaning_7 : decode cX5_workOfCleaning 7 = .ok (.invokestatic 80, 3) := by decide +kernel
theorem dX5_workOfCleaning_10 : decode cX5_workOfCleaning 10 = .ok (.isub, 1) := by decide +kernel
theorem dX5_workOfCleaning_11 : decode cX5_workOfCleaning 11 = .ok (.istore_n 2, 1) := by decide +kernel
theorem dX5_workOfCleaning_12 : decode cX5_workOfCleaning 12 = .ok (.aload_n 0, 1) := by decide +kernel
theorem dX5_workOfCleaning_13 : decode cX5_workOfCleaning 13 = .ok (.getfield 33, 3) := by decide +kernel
theorem dX5_workOfCleaning_16 : decode cX5_workOfCleaning 16 = .ok (.iload_n 1, 1) := by decide +kernel
theorem dX5_workOfCleaning_17 : decode cX5_workOfCleaning 17 = .ok (.invokestatic 80, 3) := by decide +kernel
theorem dX5_workOfCleaning_20 : decode cX5_workOfCleaning 20 = .ok (.ifCond .le 7, 3) := by decide +kernel
theorem dX5_workOfCleaning_23 : decode cX5_workOfCleaning 23 = .ok (.iconst 4, 1) := by decide +kernel
theorem dX5_workOfCleaning_24 : decode cX5_workOfCleaning 24 = .ok (.goto 4, 3) := by decide +kernel
theorem dX5_workOfCleaning_27 : decode cX5_workOfCleaning 27 = .ok (.iconst 0, 1) := by decide +kernel
theorem dX5_workOfCleaning_28 : decode cX5_workOfCleaning 28 = .ok (.istore_n 3, 1) := by decide +kernel
theorem dX5_workOfCleaning_29 : decode cX5_workOfCleaning 29 = .ok (.iconst 2, 1) := by decide +kernel
theorem dX5_workOfCleaning_30 : decode cX5_workOfCleaning 30 = .ok (.iload_n 2, 1) := by decide +kernel
theorem dX5_workOfCleaning_31 : decode cX5_workOfCleaning 31 = .ok (.bipush 10, 2) := by decide +kernel
theorem dX5_workOfCleaning_33 : decode cX5_workOfCleaning 33 = .ok (.idiv, 1) := by decide +kernel
theorem dX5_workOfCleaning_34 : decode cX5_workOfCleaning 34 = .ok (.iadd, 1) := by decide +kernel
theorem dX5_workOfCleaning_35 : decode cX5_workOfCleaning 35 = .ok (.iload_n 3, 1) := by decide +kernel
theorem dX5_workOfCleaning_36 : decode cX5_workOfCleaning 36 = .ok (.iadd, 1) := by decide +kernel
theorem dX5_workOfCleaning_37 : decode cX5_workOfCleaning 37 = .ok (.ireturn, 1) := by decide +kernel
theorem dX5_addHoleWork_0 : decode cX5_addHoleWork 0 = .ok (.aload_n 0, 1) := by decide +kernel
theorem dX5_addHoleWork_1 : decode cX5_addHoleWork 1 = .ok (.getfield 39, 3) := by decide +kernel
theorem dX5_addHoleWork_4 : decode cX5_addHoleWork 4 = .ok (.iload_n 1, 1) := by decide +kernel
theorem dX5_addHoleWork_5 : decode cX5_addHoleWork 5 = .ok (.aload_n 0, 1) := by decide +kernel
theorem dX5_addHoleWork_6 : decode cX5_addHoleWork 6 = .ok (.getfield 39, 3) := by decide +kernel
theorem dX5_addHoleWork_9 : decode cX5_addHoleWork 9 = .ok (.iload_n 1, 1) := by decide +kernel
theorem dX5_addHoleWork_10 : decode cX5_addHoleWork 10 = .ok (.invokestatic 80, 3) := by decide +kernel
theorem dX5_addHoleWork_13 : decode cX5_addHoleWork 13 = .ok (.iload_n 2, 1) := by decide +kernel
theorem dX5_addHoleWork_14 : decode cX5_addHoleWork 14 = .ok (.iadd, 1) := by decide +kernel
theorem dX5_addHoleWork_15 : decode cX5_addHoleWork 15 = .ok (.invokestatic 76, 3) := by decide +kernel
theorem dX5_addHoleWork_18 : decode cX5_addHoleWork 18 = .ok (.return_, 1) := by decide +kernel
theorem dX5_workOfHoles_0 : decode cX5_workOfHoles 0 = .ok (.iconst 0, 1) := by decide +kernel
theorem dX5_workOfHoles_1 : decode cX5_workOfHoles 1 = .ok (.istore_n 1, 1) := by decide +kernel
theorem dX5_workOfHoles_2 : decode cX5_workOfHoles 2 = .ok (.iconst 0, 1) := by decide +kernel
theorem dX5_workOfHoles_3 : decode cX5_workOfHoles 3 = .ok (.istore_n 2, 1) := by decide +kernel
theorem dX5_workOfHoles_4 : decode cX5_workOfHoles 4 = .ok (.iload_n 2, 1) := by decide +kernel
theorem dX5_workOfHoles_5 : decode cX5_workOfHoles 5 = .ok (.aload_n 0, 1) := by decide +kernel
theorem dX5_workOfHoles_6 : decode cX5_workOfHoles 6 = .ok (.getfield 9, 3) := by decide +kernel
theorem dX5_workOfHoles_9 : decode cX5_workOfHoles 9 = .ok (.if_icmp .ge 20, 3) := by decide +kernel
theorem dX5_workOfHoles_12 : decode cX5_workOfHoles 12 = .ok (.iload_n 1, 1) := by decide +kernel
theorem dX5_workOfHoles_13 : decode cX5_workOfHoles 13 = .ok (.aload_n 0, 1) := by decide +kernel
theorem dX5_workOfHoles_14 : decode cX5_workOfHoles 14 = .ok (.getfield 39, 3) := by decide +kernel
theorem dX5_workOfHoles_17 : decode cX5_workOfHoles 17 = .ok (.iload_n 2, 1) := by decide +kernel
theorem dX5_workOfHoles_18 : decode cX5_workOfHoles 18 = .ok (.invokestatic 80, 3) := by decide +kernel
theorem dX5_workOfHoles_21 : decode cX5_workOfHoles 21 = .ok (.iadd, 1) := by decide +kernel
theorem dX5_workOfHoles_22 : decode cX5_workOfHoles 22 = .ok (.istore_n 1, 1) := by decide +kernel
theorem dX5_workOfHoles_23 : decode cX5_workOfHoles 23 = .ok (.iinc 2 1, 3) := by decide +kernel
theorem dX5_workOfHoles_26 : decode cX5_workOfHoles 26 = .ok (.goto (-22), 3) := by decide +kernel
theorem dX5_workOfHoles_29 : decode cX5_workOfHoles 29 = .ok (.iload_n 1, 1) := by decide +kernel
theorem dX5_workOfHoles_30 : decode cX5_workOfHoles 30 = .ok (.ireturn, 1) := by decide +kernel
theorem dX5_takeReading_0 : decode cX5_takeReading 0 = .ok (.aload_n 0, 1) := by decide +kernel
theorem dX5_takeReading_1 : decode cX5_takeReading 1 = .ok (.getfield 45, 3) := by decide +kernel
theorem dX5_takeReading_4 : decode cX5_takeReading 4 = .ok (.aload_n 1, 1) := by decide +kernel
theorem dX5_takeReading_5 : decode cX5_takeReading 5 = .ok (.iload_n 2, 1) := by decide +kernel
theorem dX5_takeReading_6 : decode cX5_takeReading 6 = .ok (.aload_n 0, 1) := by decide +kernel
theorem dX5_takeReading_7 : decode cX5_takeReading 7 = .ok (.getfield 15, 3) := by decide +kernel
theorem dX5_takeReading_10 : decode cX5_takeReading 10 = .ok (.invokevirtual 84, 3) := by decide +kernel
theorem dX5_takeReading_13 : decode cX5_takeReading 13 = .ok (.aload_n 0, 1) := by decide +kernel
theorem dX5_takeReading_14 : decode cX5_takeReading 14 = .ok (.dup, 1) := by decide +kernel
theorem dX5_takeReading_15 : decode cX5_takeReading 15 = .ok (.getfield 59, 3) := by decide +kernel
theorem dX5_takeReading_18 : decode cX5_takeReading 18 = .ok (.iconst 1, 1) := by decide +kernel
theorem dX5_takeReading_19 : decode cX5_takeReading 19 = .ok (.iadd, 1) := by decide +kernel
theorem dX5_takeReading_20 : decode cX5_takeReading 20 = .ok (.putfield 59, 3) := by decide +kernel
theorem dX5_takeReading_23 : decode cX5_takeReading 23 = .ok (.aload_n 0, 1) := by decide +kernel
theorem dX5_takeReading_24 : decode cX5_takeReading 24 = .ok (.dup, 1) := by decide +kernel
theorem dX5_takeReading_25 : decode cX5_takeReading 25 = .ok (.getfield 62, 3) := by decide +kernel
theorem dX5_takeReading_28 : decode cX5_takeReading 28 = .ok (.iconst 5, 1) := by decide +kernel
theorem dX5_takeReading_29 : decode cX5_takeReading 29 = .ok (.iadd, 1) := by decide +kernel
theorem dX5_takeReading_30 : decode cX5_takeReading 30 = .ok (.putfield 62, 3) := by decide +kernel
theorem dX5_takeReading_33 : decode cX5_takeReading 33 = .ok (.return_, 1) := by decide +kernel
theorem dX6_init_0 : decode cX6_init 0 = .ok (.aload_n 0, 1) := by decide +kernel
theorem dX6_init_1 : decode cX6_init 1 = .ok (.invokespecial 3, 3) := by decide +kernel
theorem dX6_init_4 : decode cX6_init 4 = .ok (.aload_n 0, 1) := by decide +kernel
theorem dX6_init_5 : decode cX6_init 5 = .ok (.bipush 50, 2) := by decide +kernel
theorem dX6_init_7 : decode cX6_init 7 = .ok (.newarray .int, 2) := by decide +kernel
theorem dX6_init_9 : decode cX6_init 9 = .ok (.putfield 9, 3) := by decide +kernel
theorem dX6_init_12 : decode cX6_init 12 = .ok (.return_, 1) := by decide +kernel
theorem dX6_add_0 : decode cX6_add 0 = .ok (.aload_n 0, 1) := by decide +kernel
theorem dX6_add_1 : decode cX6_add 1 = .ok (.getfield 9, 3) := by decide +kernel
theorem dX6_add_4 : decode cX6_add 4 = .ok (.aload_n 0, 1) := by decide +kernel
theorem dX6_add_5 : decode cX6_add 5 = .ok (.getfield 15, 3) := by decide +kernel
theorem dX6_add_8 : decode cX6_add 8 = .ok (.iload_n 1, 1) := by decide +kernel
theorem dX6_add_9 : decode cX6_add 9 = .ok (.invokestatic 19, 3) := by decide +kernel
theorem dX6_add_12 : decode cX6_add 12 = .ok (.aload_n 0, 1) := by decide +kernel
theorem dX6_add_13 : decode cX6_add 13 = .ok (.dup, 1) := by decide +kernel
theorem dX6_add_14 : decode cX6_add 14 = .ok (.getfield 15, 3) := by decide +kernel
theorem dX6_add_17 : decode cX6_add 17 = .ok (.iconst 1, 1) := by decide +kernel
theorem dX6_add_18 : decode cX6_add 18 = .ok (.iadd, 1) := by decide +kernel
theorem dX6_add_19 : decode cX6_add 19 = .ok (.putfield 15, 3) := by decide +kernel
theorem dX6_add_22 : decode cX6_add 22 = .ok (.return_, 1) := by decide +kernel
theorem dX6_firstWrong_0 : decode cX6_firstWrong 0 = .ok (.iconst 0, 1) := by decide +kernel
theorem dX6_firstWrong_1 : decode cX6_firstWrong 1 = .ok (.istore_n 1, 1) := by decide +kernel
theorem dX6_firstWrong_2 : decode cX6_firstWrong 2 = .ok (.iconst 0, 1) := by decide +kernel
theorem dX6_firstWrong_3 : decode cX6_firstWrong 3 = .ok (.istore_n 2, 1) := by decide +kernel
theorem dX6_firstWrong_4 : decode cX6_firstWrong 4 = .ok (.iconst 0, 1) := by decide +kernel
theorem dX6_firstWrong_5 : decode cX6_firstWrong 5 = .ok (.istore_n 3, 1) := by decide +kernel
theorem dX6_firstWrong_6 : decode cX6_firstWrong 6 = .ok (.iconst 0, 1) := by decide +kernel
theorem dX6_firstWrong_7 : decode cX6_firstWrong 7 = .ok (.istore 4, 2) := by decide +kernel
theorem dX6_firstWrong_9 : decode cX6_firstWrong 9 = .ok (.iload 4, 2) := by decide +kernel
theorem dX6_firstWrong_11 : decode cX6_firstWrong 11 = .ok (.aload_n 0, 1) := by decide +kernel
theorem dX6_firstWrong_12 : decode cX6_firstWrong 12 = .ok (.getfield 15, 3) := by decide +kernel
theorem dX6_firstWrong_15 : decode cX6_firstWrong 15 = .ok (.if_icmp .ge 92, 3) := by decide +kernel
theorem dX6_firstWrong_18 : decode cX6_firstWrong 18 = .ok (.aload_n 0, 1) := by decide +kernel
theorem dX6_firstWrong_19 : decode cX6_firstWrong 19 = .ok (.getfield 9, 3) := by decide +kernel
theorem dX6_firstWrong_22 : decode cX6_firstWrong 22 = .ok (.iload 4, 2) := by decide +kernel
theorem dX6_firstWrong_24 : decode cX6_firstWrong 24 = .ok (.invokestatic 25, 3) := by decide +kernel
theorem dX6_firstWrong_27 : decode cX6_firstWrong 27 = .ok (.istore 5, 2) := by decide +kernel
theorem dX6_firstWrong_29 : decode cX6_firstWrong 29 = .ok (.iload 5, 2) := by decide +kernel
theorem dX6_firstWrong_31 : decode cX6_firstWrong 31 = .ok (.invokestatic 29, 3) := by decide +kernel
theorem dX6_firstWrong_34 : decode cX6_firstWrong 34 = .ok (.ifCond .eq 35, 3) := by decide +kernel
theorem dX6_firstWrong_37 : decode cX6_firstWrong 37 = .ok (.iload_n 2, 1) := by decide +kernel
theorem dX6_firstWrong_38 : decode cX6_firstWrong 38 = .ok (.iconst 5, 1) := by decide +kernel
theorem dX6_firstWrong_39 : decode cX6_firstWrong 39 = .ok (.if_icmp .ge 30, 3) := by decide +kernel
theorem dX6_firstWrong_42 : decode cX6_firstWrong 42 = .ok (.iload_n 3, 1) := by decide +kernel
theorem dX6_firstWrong_43 : decode cX6_firstWrong 43 = .ok (.ifCond .ne 26, 3) := by decide +kernel
theorem dX6_firstWrong_46 : decode cX6_firstWrong 46 = .ok (.iload_n 2, 1) := by decide +kernel
theorem dX6_firstWrong_47 : decode cX6_firstWrong 47 = .ok (.ifCond .ne 14, 3) := by decide +kernel
theorem dX6_firstWrong_50 : decode cX6_firstWrong 50 = .ok (.iload 5, 2) := by decide +kernel
theorem dX6_firstWrong_52 : decode cX6_firstWrong 52 = .ok (.bipush 48, 2) := by decide +kernel
theorem dX6_firstWrong_54 : decode cX6_firstWrong 54 = .ok (.if_icmp .ne 7, 3) := by decide +kernel
theorem dX6_firstWrong_57 : decode cX6_firstWrong 57 = .ok (.iconst 1, 1) := by decide +kernel
theorem dX6_firstWrong_58 : decode cX6_firstWrong 58 = .ok (.goto 4, 3) := by decide +kernel
theorem dX6_firstWrong_61 : decode cX6_firstWrong 61 = .ok (.iconst 0, 1) := by decide +kernel
theorem dX6_firstWrong_62 : decode cX6_firstWrong 62 = .ok (.istore_n 3, 1) := by decide +kernel
theorem dX6_firstWrong_63 : decode cX6_firstWrong 63 = .ok (.iinc 2 1, 3) := by decide +kernel
theorem dX6_firstWrong_66 : decode cX6_firstWrong 66 = .ok (.goto 35, 3) := by decide +kernel
theorem dX6_firstWrong_69 : decode cX6_firstWrong 69 = .ok (.iload 5, 2) := by decide +kernel
theorem dX6_firstWrong_71 : decode cX6_firstWrong 71 = .ok (.bipush 44, 2) := by decide +kernel
theorem dX6_firstWrong_73 : decode cX6_firstWrong 73 = .ok (.if_icmp .ne 25, 3) := by decide +kernel
theorem dX6_firstWrong_76 : decode cX6_firstWrong 76 = .ok (.iload_n 2, 1) := by decide +kernel
theorem dX6_firstWrong_77 : decode cX6_firstWrong 77 = .ok (.ifCond .le 21, 3) := by decide +kernel
theorem dX6_firstWrong_80 : decode cX6_firstWrong 80 = .ok (.iload_n 1, 1) := by decide +kernel
theorem dX6_firstWrong_81 : decode cX6_firstWrong 81 = .ok (.iconst 1, 1) := by decide +kernel
theorem dX6_firstWrong_82 : decode cX6_firstWrong 82 = .ok (.iadd, 1) := by decide +kernel
theorem dX6_firstWrong_83 : decode cX6_firstWrong 83 = .ok (.bipush 8, 2) := by decide +kernel
theorem dX6_firstWrong_85 : decode cX6_firstWrong 85 = .ok (.if_icmp .ge 13, 3) := by decide +kernel
theorem dX6_firstWrong_88 : decode cX6_firstWrong 88 = .ok (.iinc 1 1, 3) := by decide +kernel
theorem dX6_firstWrong_91 : decode cX6_firstWrong 91 = .ok (.iconst 0, 1) := by decide +kernel
theorem dX6_firstWrong_92 : decode cX6_firstWrong 92 = .ok (.istore_n 2, 1) := by decide +kernel
theorem dX6_firstWrong_93 : decode cX6_firstWrong 93 = .ok (.iconst 0, 1) := by decide +kernel
theorem dX6_firstWrong_94 : decode cX6_firstWrong 94 = .ok (.istore_n 3, 1) := by decide +kernel
theorem dX6_firstWrong_95 : decode cX6_firstWrong 95 = .ok (.goto 6, 3) := by decide +kernel
theorem dX6_firstWrong_98 : decode cX6_firstWrong 98 = .ok (.iload 4, 2) := by decide +kernel
theorem dX6_firstWrong_100 : decode cX6_firstWrong 100 = .ok (.ireturn, 1) := by decide +kernel
theorem dX6_firstWrong_101 : decode cX6_firstWrong 101 = .ok (.iinc 4 1, 3) := by decide +kernel
theorem dX6_firstWrong_104 : decode cX6_firstWrong 104 = .ok (.goto (-95), 3) := by decide +kernel
theorem dX6_firstWrong_107 : decode cX6_firstWrong 107 = .ok (.aload_n 0, 1) := by decide +kernel
theorem dX6_firstWrong_108 : decode cX6_firstWrong 108 = .ok (.getfield 15, 3) := by decide +kernel
theorem dX6_firstWrong_111 : decode cX6_firstWrong 111 = .ok (.ireturn, 1) := by decide +kernel
theorem dX6_tellsReading_0 : decode cX6_tellsReading 0 = .ok (.aload_n 0, 1) := by decide +kernel
theorem dX6_tellsReading_1 : decode cX6_tellsReading 1 = .ok (.getfield 15, 3) := by decide +kernel
theorem dX6_tellsReading_4 : decode cX6_tellsReading 4 = .ok (.ifCond .le 37, 3) := by decide +kernel
theorem dX6_tellsReading_7 : decode cX6_tellsReading 7 = .ok (.aload_n 0, 1) := by decide +kernel
theorem dX6_tellsReading_8 : decode cX6_tellsReading 8 = .ok (.getfield 9, 3) := by decide +kernel
theorem dX6_tellsReading_11 : decode cX6_tellsReading 11 = .ok (.aload_n 0, 1) := by decide +kernel
theorem dX6_tellsReading_12 : decode cX6_tellsReading 12 = .ok (.getfield 15, 3) := by decide +kernel
theorem dX6_tellsReading_15 : decode cX6_tellsReading 15 = .ok (.iconst 1, 1) := by decide +kernel
theorem dX6_tellsReading_16 : decode cX6_tellsReading 16 = .ok (.isub, 1) := by decide +kernel
theorem dX6_tellsReading_17 : decode cX6_tellsReading 17 = .ok (.invokestatic 25, 3) := by decide +kernel
theorem dX6_tellsReading_20 : decode cX6_tellsReading 20 = .ok (.invokestatic 29, 3) := by decide +kernel
theorem dX6_tellsReading_23 : decode cX6_tellsReading 23 = .ok (.ifCond .eq 18, 3) := by decide +kernel
theorem dX6_tellsReading_26 : decode cX6_tellsReading 26 = .ok (.aload_n 0, 1) := by decide +kernel
theorem dX6_tellsReading_27 : decode cX6_tellsReading 27 = .ok (.invokevirtual 33, 3) := by decide +kernel
theorem dX6_tellsReading_30 : decode cX6_tellsReading 30 = .ok (.aload_n 0, 1) := by decide +kernel
theorem dX6_tellsReading_31 : decode cX6_tellsReading 31 = .ok (.getfield 15, 3) := by decide +kernel
theorem dX6_tellsReading_34 : decode cX6_tellsReading 34 = .ok (.if_icmp .ne 7, 3) := by decide +kernel
theorem dX6_tellsReading_37 : decode cX6_tellsReading 37 = .ok (.iconst 1, 1) := by decide +kernel
theorem dX6_tellsReading_38 : decode cX6_tellsReading 38 = .ok (.goto 4, 3) := by decide +kernel
theorem dX6_tellsReading_41 : decode cX6_tellsReading 41 = .ok (.iconst 0, 1) := by decide +kernel
theorem dX6_tellsReading_42 : decode cX6_tellsReading 42 = .ok (.ireturn, 1) := by decide +kernel
theorem dX6_headsInto_0 : decode cX6_headsInto 0 = .ok (.iconst 0, 1) := by decide +kernel
theorem dX6_headsInto_1 : decode cX6_headsInto 1 = .ok (.istore_n 2, 1) := by decide +kernel
theorem dX6_headsInto_2 : decode cX6_headsInto 2 = .ok (.iconst 0, 1) := by decide +kernel
theorem dX6_headsInto_3 : decode cX6_headsInto 3 = .ok (.istore_n 3, 1) := by decide +kernel
theorem dX6_headsInto_4 : decode cX6_headsInto 4 = .ok (.iconst 0, 1) := by decide +kernel
theorem dX6_headsInto_5 : decode cX6_headsInto 5 = .ok (.istore 4, 2) := by decide +kernel
theorem dX6_headsInto_7 : decode cX6_headsInto 7 = .ok (.iload 4, 2) := by decide +kernel
theorem dX6_headsInto_9 : decode cX6_headsInto 9 = .ok (.aload_n 0, 1) := by decide +kernel
theorem dX6_headsInto_10 : decode cX6_headsInto 10 = .ok (.getfield 15, 3) := by decide +kernel
theorem dX6_headsInto_13 : decode cX6_headsInto 13 = .ok (.if_icmp .ge 53, 3) := by decide +kernel
theorem dX6_headsInto_16 : decode cX6_headsInto 16 = .ok (.aload_n 0, 1) := by decide +kernel
theorem dX6_headsInto_17 : decode cX6_headsInto 17 = .ok (.getfield 9, 3) := by decide +kernel
theorem dX6_headsInto_20 : decode cX6_headsInto 20 = .ok (.iload 4, 2) := by decide +kernel
theorem dX6_headsInto_22 : decode cX6_headsInto 22 = .ok (.invokestatic 25, 3) := by decide +kernel
theorem dX6_headsInto_25 : decode cX6_headsInto 25 = .ok (.istore 5, 2) := by decide +kernel
theorem dX6_headsInto_27 : decode cX6_headsInto 27 = .ok (.iload 5, 2) := by decide +kernel
theorem dX6_headsInto_29 : decode cX6_headsInto 29 = .ok (.invokestatic 29, 3) := by decide +kernel
theorem dX6_headsInto_32 : decode cX6_headsInto 32 = .ok (.ifCond .eq 17, 3) := by decide +kernel
theorem dX6_headsInto_35 : decode cX6_headsInto 35 = .ok (.bipush 10, 2) := by decide +kernel
theorem dX6_headsInto_37 : decode cX6_headsInto 37 = .ok (.iload_n 3, 1) := by decide +kernel
theorem dX6_headsInto_38 : decode cX6_headsInto 38 = .ok (.imul, 1) := by decide +kernel
theorem dX6_headsInto_39 : decode cX6_headsInto 39 = .ok (.iload 5, 2) := by decide +kernel
theorem dX6_headsInto_41 : decode cX6_headsInto 41 = .ok (.bipush 48, 2) := by decide +kernel
theorem dX6_headsInto_43 : decode cX6_headsInto 43 = .ok (.isub, 1) := by decide +kernel
theorem dX6_headsInto_44 : decode cX6_headsInto 44 = .ok (.iadd, 1) := by decide +kernel
theorem dX6_headsInto_45 : decode cX6_headsInto 45 = .ok (.istore_n 3, 1) := by decide +kernel
theorem dX6_headsInto_46 : decode cX6_headsInto 46 = .ok (.goto 14, 3) := by decide +kernel
theorem dX6_headsInto_49 : decode cX6_headsInto 49 = .ok (.aload_n 1, 1) := by decide +kernel
theorem dX6_headsInto_50 : decode cX6_headsInto 50 = .ok (.iload_n 2, 1) := by decide +kernel
theorem dX6_headsInto_51 : decode cX6_headsInto 51 = .ok (.iload_n 3, 1) := by decide +kernel
theorem dX6_headsInto_52 : decode cX6_headsInto 52 = .ok (.invokestatic 19, 3) := by decide +kernel
theorem dX6_headsInto_55 : decode cX6_headsInto 55 = .ok (.iinc 2 1, 3) := by decide +kernel
theorem dX6_headsInto_58 : decode cX6_headsInto 58 = .ok (.iconst 0, 1) := by decide +kernel
theorem dX6_headsInto_59 : decode cX6_headsInto 59 = .ok (.istore_n 3, 1) := by decide +kernel
theorem dX6_headsInto_60 : decode cX6_headsInto 60 = .ok (.iinc 4 1, 3) := by decide +kernel
theorem dX6_headsInto_63 : decode cX6_headsInto 63 = .ok (.goto (-56), 3) := by decide +kernel
theorem dX6_headsInto_66 : decode cX6_headsInto 66 = .ok (.aload_n 1, 1) := by decide +kernel
theorem dX6_headsInto_67 : decode cX6_headsInto 67 = .ok (.iload_n 2, 1) := by decide +kernel
theorem dX6_headsInto_68 : decode cX6_headsInto 68 = .ok (.iload_n 3, 1) := by decide +kernel
theorem dX6_headsInto_69 : decode cX6_headsInto 69 = .ok (.invokestatic 19, 3) := by decide +kernel
theorem dX6_headsInto_72 : decode cX6_headsInto 72 = .ok (.iload_n 2, 1) := by decide +kernel
theorem dX6_headsInto_73 : decode cX6_headsInto 73 = .ok (.iconst 1, 1) := by decide +kernel
theorem dX6_headsInto_74 : decode cX6_headsInto 74 = .ok (.iadd, 1) := by decide +kernel
theorem dX6_headsInto_75 : decode cX6_headsInto 75 = .ok (.ireturn, 1) := by decide +kernel
theorem dX6_isDigit_0 : decode cX6_isDigit 0 = .ok (.iload_n 0, 1) := by decide +kernel
theorem dX6_isDigit_1 : decode cX6_isDigit 1 = .ok (.bipush 48, 2) := by decide +kernel
theorem dX6_isDigit_3 : decode cX6_isDigit 3 = .ok (.if_icmp .lt 13, 3) := by decide +kernel
theorem dX6_isDigit_6 : decode cX6_isDigit 6 = .ok (.iload_n 0, 1) := by decide +kernel
theorem dX6_isDigit_7 : decode cX6_isDigit 7 = .ok (.bipush 57, 2) := by decide +kernel
theorem dX6_isDigit_9 : decode cX6_isDigit 9 = .ok (.if_icmp .gt 7, 3) := by decide +kernel
theorem dX6_isDigit_12 : decode cX6_isDigit 12 = .ok (.iconst 1, 1) := by decide +kernel
theorem dX6_isDigit_13 : decode cX6_isDigit 13 = .ok (.goto 4, 3) := by decide +kernel
theorem dX6_isDigit_16 : decode cX6_isDigit 16 = .ok (.iconst 0, 1) := by decide +kernel
theorem dX6_isDigit_17 : decode cX6_isDigit 17 = .ok (.ireturn, 1) := by decide +kernel
theorem dX7_init_0 : decode cX7_init 0 = .ok (.aload_n 0, 1) := by decide +kernel
theorem dX7_init_1 : decode cX7_init 1 = .ok (.invokespecial 3, 3) := by decide +kernel
theorem dX7_init_4 : decode cX7_init 4 = .ok (.aload_n 0, 1) := by decide +kernel
theorem dX7_init_5 : decode cX7_init 5 = .ok (.bipush 8, 2) := by decide +kernel
theorem dX7_init_7 : decode cX7_init 7 = .ok (.newarray .int, 2) := by decide +kernel
theorem dX7_init_9 : decode cX7_init 9 = .ok (.putfield 9, 3) := by decide +kernel
theorem dX7_init_12 : decode cX7_init 12 = .ok (.aload_n 0, 1) := by decide +kernel
theorem dX7_init_13 : decode cX7_init 13 = .ok (.bipush 8, 2) := by decide +kernel
theorem dX7_init_15 : decode cX7_init 15 = .ok (.newarray .int, 2) := by decide +kernel
theorem dX7_init_17 : decode cX7_init 17 = .ok (.putfield 15, 3) := by decide +kernel
theorem dX7_init_20 : decode cX7_init 20 = .ok (.aload_n 0, 1) := by decide +kernel
theorem dX7_init_21 : decode cX7_init 21 = .ok (.bipush 8, 2) := by decide +kernel
theorem dX7_init_23 : decode cX7_init 23 = .ok (.newarray .int, 2) := by decide +kernel
theorem dX7_init_25 : decode cX7_init 25 = .ok (.putfield 18, 3) := by decide +kernel
theorem dX7_init_28 : decode cX7_init 28 = .ok (.return_, 1) := by decide +kernel
theorem dX7_judge_0 : decode cX7_judge 0 = .ok (.aload_n 0, 1) := by decide +kernel
theorem dX7_judge_1 : decode cX7_judge 1 = .ok (.aload_n 1, 1) := by decide +kernel
theorem dX7_judge_2 : decode cX7_judge 2 = .ok (.invokevirtual 21, 3) := by decide +kernel
theorem dX7_judge_5 : decode cX7_judge 5 = .ok (.aload_n 0, 1) := by decide +kernel
theorem dX7_judge_6 : decode cX7_judge 6 = .ok (.aload_n 1, 1) := by decide +kernel
theorem dX7_judge_7 : decode cX7_judge 7 = .ok (.iconst (-1), 1) := by decide +kernel
theorem dX7_judge_8 : decode cX7_judge 8 = .ok (.invokevirtual 25, 3) := by decide +kernel
theorem dX7_judge_11 : decode cX7_judge 11 = .ok (.aload_n 0, 1) := by decide +kernel
theorem dX7_judge_12 : decode cX7_judge 12 = .ok (.invokevirtual 29, 3) := by decide +kernel
theorem dX7_judge_15 : decode cX7_judge 15 = .ok (.return_, 1) := by decide +kernel
theorem dX7_judgeIfRight_0 : decode cX7_judgeIfRight 0 = .ok (.aload_n 0, 1) := by decide +kernel
theorem dX7_judgeIfRight_1 : decode cX7_judgeIfRight 1 = .ok (.aload_n 1, 1) := by decide +kernel
theorem dX7_judgeIfRight_2 : decode cX7_judgeIfRight 2 = .ok (.invokevirtual 21, 3) := by decide +kernel
theorem dX7_judgeIfRight_5 : decode cX7_judgeIfRight 5 = .ok (.aload_n 0, 1) := by decide +kernel
theorem dX7_judgeIfRight_6 : decode cX7_judgeIfRight 6 = .ok (.getfield 9, 3) := by decide +kernel
theorem dX7_judgeIfRight_9 : decode cX7_judgeIfRight 9 = .ok (.iload_n 2, 1) := by decide +kernel
theorem dX7_judgeIfRight_10 : decode cX7_judgeIfRight 10 = .ok (.iload_n 3, 1) := by decide +kernel
theorem dX7_judgeIfRight_11 : decode cX7_judgeIfRight 11 = .ok (.invokestatic 32, 3) := by decide +kernel
theorem dX7_judgeIfRight_14 : decode cX7_judgeIfRight 14 = .ok (.aload_n 0, 1) := by decide +kernel
theorem dX7_judgeIfRight_15 : decode cX7_judgeIfRight 15 = .ok (.aload_n 1, 1) := by decide +kernel
theorem dX7_judgeIfRight_16 : decode cX7_judgeIfRight 16 = .ok (.iload_n 2, 1) := by decide +kernel
theorem dX7_judgeIfRight_17 : decode cX7_judgeIfRight 17 = .ok (.invokevirtual 25, 3) := by decide +kernel
theorem dX7_judgeIfRight_20 : decode cX7_judgeIfRight 20 = .ok (.aload_n 0, 1) := by decide +kernel
theorem dX7_judgeIfRight_21 : decode cX7_judgeIfRight 21 = .ok (.invokevirtual 29, 3) := by decide +kernel
theorem dX7_judgeIfRight_24 : decode cX7_judgeIfRight 24 = .ok (.return_, 1) := by decide +kernel
theorem dX7_takeMeans_0 : decode cX7_takeMeans 0 = .ok (.aload_n 0, 1) := by decide +kernel
theorem dX7_takeMeans_1 : decode cX7_takeMeans 1 = .ok (.aload_n 1, 1) := by decide +kernel
theorem dX7_takeMeans_2 : decode cX7_takeMeans 2 = .ok (.getfield 38, 3) := by decide +kernel
theorem dX7_takeMeans_5 : decode cX7_takeMeans 5 = .ok (.putfield 44, 3) := by decide +kernel
theorem dX7_takeMeans_8 : decode cX7_takeMeans 8 = .ok (.aload_n 0, 1) := by decide +kernel
theorem dX7_takeMeans_9 : decode cX7_takeMeans 9 = .ok (.aload_n 1, 1) := by decide +kernel
theorem dX7_takeMeans_10 : decode cX7_takeMeans 10 = .ok (.getfield 45, 3) := by decide +kernel
theorem dX7_takeMeans_13 : decode cX7_takeMeans 13 = .ok (.putfield 48, 3) := by decide +kernel
theorem dX7_takeMeans_16 : decode cX7_takeMeans 16 = .ok (.aload_n 0, 1) := by decide +kernel
theorem dX7_takeMeans_17 : decode cX7_takeMeans 17 = .ok (.iconst 0, 1) := by decide +kernel
theorem dX7_takeMeans_18 : decode cX7_takeMeans 18 = .ok (.putfield 49, 3) := by decide +kernel
theorem dX7_takeMeans_21 : decode cX7_takeMeans 21 = .ok (.aload_n 0, 1) := by decide +kernel
theorem dX7_takeMeans_22 : decode cX7_takeMeans 22 = .ok (.getfield 9, 3) := by decide +kernel
theorem dX7_takeMeans_25 : decode cX7_takeMeans 25 = .ok (.invokestatic 52, 3) := by decide +kernel
theorem dX7_takeMeans_28 : decode cX7_takeMeans 28 = .ok (.aload_n 1, 1) := by decide +kernel
theorem dX7_takeMeans_29 : decode cX7_takeMeans 29 = .ok (.getfield 56, 3) := by decide +kernel
theorem dX7_takeMeans_32 : decode cX7_takeMeans 32 = .ok (.astore_n 2, 1) := by decide +kernel
theorem dX7_takeMeans_33 : decode cX7_takeMeans 33 = .ok (.iconst 0, 1) := by decide +kernel
theorem dX7_takeMeans_34 : decode cX7_takeMeans 34 = .ok (.istore_n 3, 1) := by decide +kernel
theorem dX7_takeMeans_35 : decode cX7_takeMeans 35 = .ok (.iload_n 3, 1) := by decide +kernel
theorem dX7_takeMeans_36 : decode cX7_takeMeans 36 = .ok (.aload_n 2, 1) := by decide +kernel
theorem dX7_takeMeans_37 : decode cX7_takeMeans 37 = .ok (.getfield 60, 3) := by decide +kernel
theorem dX7_takeMeans_40 : decode cX7_takeMeans 40 = .ok (.if_icmp .ge 79, 3) := by decide +kernel
theorem dX7_takeMeans_43 : decode cX7_takeMeans 43 = .ok (.aload_n 2, 1) := by decide +kernel
theorem dX7_takeMeans_44 : decode cX7_takeMeans 44 = .ok (.iload_n 3, 1) := by decide +kernel
theorem dX7_takeMeans_45 : decode cX7_takeMeans 45 = .ok (.aload_n 0, 1) := by decide +kernel
theorem dX7_takeMeans_46 : decode cX7_takeMeans 46 = .ok (.getfield 44, 3) := by decide +kernel
theorem dX7_takeMeans_49 : decode cX7_takeMeans 49 = .ok (.aload_n 0, 1) := by decide +kernel
theorem dX7_takeMeans_50 : decode cX7_takeMeans 50 = .ok (.getfield 48, 3) := by decide +kernel
theorem dX7_takeMeans_53 : decode cX7_takeMeans 53 = .ok (.invokevirtual 65, 3) := by decide +kernel
theorem dX7_takeMeans_56 : decode cX7_takeMeans 56 = .ok (.ifCond .eq 57, 3) := by decide +kernel
theorem dX7_takeMeans_59 : decode cX7_takeMeans 59 = .ok (.aload_n 0, 1) := by decide +kernel
theorem dX7_takeMeans_60 : decode cX7_takeMeans 60 = .ok (.dup, 1) := by decide +kernel
theorem dX7_takeMeans_61 : decode cX7_takeMeans 61 = .ok (.getfield 49, 3) := by decide +kernel
theorem dX7_takeMeans_64 : decode cX7_takeMeans 64 = .ok (.iconst 1, 1) := by decide +kernel
theorem dX7_takeMeans_65 : decode cX7_takeMeans 65 = .ok (.iadd, 1) := by decide +kernel
theorem dX7_takeMeans_66 : decode cX7_takeMeans 66 = .ok (.putfield 49, 3) := by decide +kernel
theorem dX7_takeMeans_69 : decode cX7_takeMeans 69 = .ok (.iconst 0, 1) := by decide +kernel
theorem dX7_takeMeans_70 : decode cX7_takeMeans 70 = .ok (.istore 4, 2) := by decide +kernel
theorem dX7_takeMeans_72 : decode cX7_takeMeans 72 = .ok (.iload 4, 2) := by decide +kernel
theorem dX7_takeMeans_74 : decode cX7_takeMeans 74 = .ok (.aload_n 0, 1) := by decide +kernel
theorem dX7_takeMeans_75 : decode cX7_takeMeans 75 = .ok (.getfield 44, 3) := by decide +kernel
theorem dX7_takeMeans_78 : decode cX7_takeMeans 78 = .ok (.if_icmp .ge 35, 3) := by decide +kernel
theorem dX7_takeMeans_81 : decode cX7_takeMeans 81 = .ok (.aload_n 0, 1) := by decide +kernel
theorem dX7_takeMeans_82 : decode cX7_takeMeans 82 = .ok (.getfield 9, 3) := by decide +kernel
theorem dX7_takeMeans_85 : decode cX7_takeMeans 85 = .ok (.iload 4, 2) := by decide +kernel
theorem dX7_takeMeans_87 : decode cX7_takeMeans 87 = .ok (.aload_n 0, 1) := by decide +kernel
theorem dX7_takeMeans_88 : decode cX7_takeMeans 88 = .ok (.getfield 9, 3) := by decide +kernel
theorem dX7_takeMeans_91 : decode cX7_takeMeans 91 = .ok (.iload 4, 2) := by decide +kernel
theorem dX7_takeMeans_93 : decode cX7_takeMeans 93 = .ok (.invokestatic 69, 3) := by decide +kernel
theorem dX7_takeMeans_96 : decode cX7_takeMeans 96 = .ok (.aload_n 2, 1) := by decide +kernel
theorem dX7_takeMeans_97 : decode cX7_takeMeans 97 = .ok (.iload_n 3, 1) := by decide +kernel
theorem dX7_takeMeans_98 : decode cX7_takeMeans 98 = .ok (.iload 4, 2) := by decide +kernel
theorem dX7_takeMeans_100 : decode cX7_takeMeans 100 = .ok (.invokevirtual 73, 3) := by decide +kernel
theorem dX7_takeMeans_103 : decode cX7_takeMeans 103 = .ok (.iadd, 1) := by decide +kernel
theorem dX7_takeMeans_104 : decode cX7_takeMeans 104 = .ok (.invokestatic 32, 3) := by decide +kernel
theorem dX7_takeMeans_107 : decode cX7_takeMeans 107 = .ok (.iinc 4 1, 3) := by decide +kernel
theorem dX7_takeMeans_110 : decode cX7_takeMeans 110 = .ok (.goto (-38), 3) := by decide +kernel
theorem dX7_takeMeans_113 : decode cX7_takeMeans 113 = .ok (.iinc 3 1, 3) := by decide +kernel
theorem dX7_takeMeans_116 : decode cX7_takeMeans 116 = .ok (.goto (-81), 3) := by decide +kernel
theorem dX7_takeMeans_119 : decode cX7_takeMeans 119 = .ok (.iconst 0, 1) := by decide +kernel
theorem dX7_takeMeans_120 : decode cX7_takeMeans 120 = .ok (.istore_n 3, 1) := by decide +kernel
theorem dX7_takeMeans_121 : decode cX7_takeMeans 121 = .ok (.iload_n 3, 1) := by decide +kernel
theorem dX7_takeMeans_122 : decode cX7_takeMeans 122 = .ok (.aload_n 0, 1) := by decide +kernel
theorem dX7_takeMeans_123 : decode cX7_takeMeans 123 = .ok (.getfield 44, 3) := by decide +kernel
theorem dX7_takeMeans_126 : decode cX7_takeMeans 126 = .ok (.if_icmp .ge 32, 3) := by decide +kernel
theorem dX7_takeMeans_129 : decode cX7_takeMeans 129 = .ok (.aload_n 0, 1) := by decide +kernel
theorem dX7_takeMeans_130 : decode cX7_takeMeans 130 = .ok (.getfield 9, 3) := by decide +kernel
theorem dX7_takeMeans_133 : decode cX7_takeMeans 133 = .ok (.iload_n 3, 1) := by decide +kernel
theorem dX7_takeMeans_134 : decode cX7_takeMeans 134 = .ok (.aload_n 0, 1) := by decide +kernel
theorem dX7_takeMeans_135 : decode cX7_takeMeans 135 = .ok (.getfield 9, 3) := by decide +kernel
theorem dX7_takeMeans_138 : decode cX7_takeMeans 138 = .ok (.iload_n 3, 1) := by decide +kernel
theorem dX7_takeMeans_139 : decode cX7_takeMeans 139 = .ok (.invokestatic 69, 3) := by decide +kernel
theorem dX7_takeMeans_142 : decode cX7_takeMeans 142 = .ok (.aload_n 0, 1) := by decide +kernel
theorem dX7_takeMeans_143 : decode cX7_takeMeans 143 = .ok (.getfield 49, 3) := by decide +kernel
theorem dX7_takeMeans_146 : decode cX7_takeMeans 146 = .ok (.invokestatic 77, 3) := by decide +kernel
theorem dX7_takeMeans_149 : decode cX7_takeMeans 149 = .ok (.invokestatic 32, 3) := by decide +kernel
theorem dX7_takeMeans_152 : decode cX7_takeMeans 152 = .ok (.iinc 3 1, 3) := by decide +kernel
theorem dX7_takeMeans_155 : decode cX7_takeMeans 155 = .ok (.goto (-34), 3) := by decide +kernel
theorem dX7_takeMeans_158 : decode cX7_takeMeans 158 = .ok (.return_, 1) := by decide +kernel
theorem dX7_giveReasons_0 : decode cX7_giveReasons 0 = .ok (.iconst 0, 1) := by decide +kernel
theorem dX7_giveReasons_1 : decode cX7_giveReasons 1 = .ok (.istore_n 3, 1) := by decide +kernel
theorem dX7_giveReasons_2 : decode cX7_giveReasons 2 = .ok (.iconst 0, 1) := by decide +kernel
theorem dX7_giveReasons_3 : decode cX7_giveReasons 3 = .ok (.istore 4, 2) := by decide +kernel
theorem dX7_giveReasons_5 : decode cX7_giveReasons 5 = .ok (.iload 4, 2) := by decide +kernel
theorem dX7_giveReasons_7 : decode cX7_giveReasons 7 = .ok (.aload_n 0, 1) := by decide +kernel
theorem dX7_giveReasons_8 : decode cX7_giveReasons 8 = .ok (.getfield 44, 3) := by decide +kernel
theorem dX7_giveReasons_11 : decode cX7_giveReasons 11 = .ok (.if_icmp .ge 23, 3) := by decide +kernel
theorem dX7_giveReasons_14 : decode cX7_giveReasons 14 = .ok (.iload_n 3, 1) := by decide +kernel
theorem dX7_giveReasons_15 : decode cX7_giveReasons 15 = .ok (.aload_n 0, 1) := by decide +kernel
theorem dX7_giveReasons_16 : decode cX7_giveReasons 16 = .ok (.getfield 9, 3) := by decide +kernel
theorem dX7_giveReasons_19 : decode cX7_giveReasons 19 = .ok (.iload 4, 2) := by decide +kernel
theorem dX7_giveReasons_21 : decode cX7_giveReasons 21 = .ok (.invokestatic 69, 3) := by decide +kernel
theorem dX7_giveReasons_24 : decode cX7_giveReasons 24 = .ok (.invokestatic 82, 3) := by decide +kernel
theorem dX7_giveReasons_27 : decode cX7_giveReasons 27 = .ok (.istore_n 3, 1) := by decide +kernel
theorem dX7_giveReasons_28 : decode cX7_giveReasons 28 = .ok (.iinc 4 1, 3) := by decide +kernel
theorem dX7_giveReasons_31 : decode cX7_giveReasons 31 = .ok (.goto (-26), 3) := by decide +kernel
theorem dX7_giveReasons_34 : decode cX7_giveReasons 34 = .ok (.aload_n 1, 1) := by decide +kernel
theorem dX7_giveReasons_35 : decode cX7_giveReasons 35 = .ok (.getfield 87, 3) := by decide +kernel
theorem dX7_giveReasons_38 : decode cX7_giveReasons 38 = .ok (.iconst 3, 1) := by decide +kernel
theorem dX7_giveReasons_39 : decode cX7_giveReasons 39 = .ok (.invokestatic 69, 3) := by decide +kernel
theorem dX7_giveReasons_42 : decode cX7_giveReasons 42 = .ok (.iload_n 3, 1) := by decide +kernel
theorem dX7_giveReasons_43 : decode cX7_giveReasons 43 = .ok (.imul, 1) := by decide +kernel
theorem dX7_giveReasons_44 : decode cX7_giveReasons 44 = .ok (.istore 4, 2) := by decide +kernel
theorem dX7_giveReasons_46 : decode cX7_giveReasons 46 = .ok (.aload_n 0, 1) := by decide +kernel
theorem dX7_giveReasons_47 : decode cX7_giveReasons 47 = .ok (.iconst 0, 1) := by decide +kernel
theorem dX7_giveReasons_48 : decode cX7_giveReasons 48 = .ok (.putfield 90, 3) := by decide +kernel
theorem dX7_giveReasons_51 : decode cX7_giveReasons 51 = .ok (.iconst 0, 1) := by decide +kernel
theorem dX7_giveReasons_52 : decode cX7_giveReasons 52 = .ok (.istore 5, 2) := by decide +kernel
theorem dX7_giveReasons_54 : decode cX7_giveReasons 54 = .ok (.iload 5, 2) := by decide +kernel
theorem dX7_giveReasons_56 : decode cX7_giveReasons 56 = .ok (.aload_n 0, 1) := by decide +kernel
theorem dX7_giveReasons_57 : decode cX7_giveReasons 57 = .ok (.getfield 44, 3) := by decide +kernel
theorem dX7_giveReasons_60 : decode cX7_giveReasons 60 = .ok (.if_icmp .ge 84, 3) := by decide +kernel
theorem dX7_giveReasons_63 : decode cX7_giveReasons 63 = .ok (.iload 5, 2) := by decide +kernel
theorem dX7_giveReasons_65 : decode cX7_giveReasons 65 = .ok (.iload_n 2, 1) := by decide +kernel
theorem dX7_giveReasons_66 : decode cX7_giveReasons 66 = .ok (.if_icmp .eq 20, 3) := by decide +kernel
theorem dX7_giveReasons_69 : decode cX7_giveReasons 69 = .ok (.aload_n 1, 1) := by decide +kernel
theorem dX7_giveReasons_70 : decode cX7_giveReasons 70 = .ok (.getfield 93, 3) := by decide +kernel
theorem dX7_giveReasons_73 : decode cX7_giveReasons 73 = .ok (.iload 5, 2) := by decide +kernel
theorem dX7_giveReasons_75 : decode cX7_giveReasons 75 = .ok (.invokestatic 69, 3) := by decide +kernel
theorem dX7_giveReasons_78 : decode cX7_giveReasons 78 = .ok (.iconst 2, 1) := by decide +kernel
theorem dX7_giveReasons_79 : decode cX7_giveReasons 79 = .ok (.if_icmp .ne 7, 3) := by decide +kernel
theorem dX7_giveReasons_82 : decode cX7_giveReasons 82 = .ok (.iconst 1, 1) := by decide +kernel
theorem dX7_giveReasons_83 : decode cX7_giveReasons 83 = .ok (.goto 4, 3) := by decide +kernel
theorem dX7_giveReasons_86 : decode cX7_giveReasons 86 = .ok (.iconst 0, 1) := by decide +kernel
theorem dX7_giveReasons_87 : decode cX7_giveReasons 87 = .ok (.istore 6, 2) := by decide +kernel
theorem dX7_giveReasons_89 : decode cX7_giveReasons 89 = .ok (.aload_n 0, 1) := by decide +kernel
theorem dX7_giveReasons_90 : decode cX7_giveReasons 90 = .ok (.aload_n 0, 1) := by decide +kernel
theorem dX7_giveReasons_91 : decode cX7_giveReasons 91 = .ok (.getfield 9, 3) := by decide +kernel
theorem dX7_giveReasons_94 : decode cX7_giveReasons 94 = .ok (.iload 5, 2) := by decide +kernel
theorem dX7_giveReasons_96 : decode cX7_giveReasons 96 = .ok (.invokestatic 69, 3) := by decide +kernel
theorem dX7_giveReasons_99 : decode cX7_giveReasons 99 = .ok (.iload 4, 2) := by decide +kernel
theorem dX7_giveReasons_101 : decode cX7_giveReasons 101 = .ok (.iload 6, 2) := by decide +kernel
theorem dX7_giveReasons_103 : decode cX7_giveReasons 103 = .ok (.invokevirtual 96, 3) := by decide +kernel
theorem dX7_giveReasons_106 : decode cX7_giveReasons 106 = .ok (.istore 7, 2) := by decide +kernel
theorem dX7_giveReasons_108 : decode cX7_giveReasons 108 = .ok (.aload_n 0, 1) := by decide +kernel
theorem dX7_giveReasons_109 : decode cX7_giveReasons 109 = .ok (.getfield 15, 3) := by decide +kernel
theorem dX7_giveReasons_112 : decode cX7_giveReasons 112 = .ok (.iload 5, 2) := by decide +kernel
theorem dX7_giveReasons_114 : decode cX7_giveReasons 114 = .ok (.iload 7, 2) := by decide +kernel
theorem dX7_giveReasons_116 : decode cX7_giveReasons 116 = .ok (.invokestatic 32, 3) := by decide +kernel
theorem dX7_giveReasons_119 : decode cX7_giveReasons 119 = .ok (.aload_n 0, 1) := by decide +kernel
theorem dX7_giveReasons_120 : decode cX7_giveReasons 120 = .ok (.dup, 1) := by decide +kernel
theorem dX7_giveReasons_121 : decode cX7_giveReasons 121 = .ok (.getfield 90, 3) := by decide +kernel
theorem dX7_giveReasons_124 : decode cX7_giveReasons 124 = .ok (.iload 7, 2) := by decide +kernel
theorem dX7_giveReasons_126 : decode cX7_giveReasons 126 = .ok (.ifCond .ne 7, 3) := by decide +kernel
theorem dX7_giveReasons_129 : decode cX7_giveReasons 129 = .ok (.iconst 1, 1) := by decide +kernel
theorem dX7_giveReasons_130 : decode cX7_giveReasons 130 = .ok (.goto 4, 3) := by decide +kernel
theorem dX7_giveReasons_133 : decode cX7_giveReasons 133 = .ok (.iconst 0, 1) := by decide +kernel
theorem dX7_giveReasons_134 : decode cX7_giveReasons 134 = .ok (.iadd, 1) := by decide +kernel
theorem dX7_giveReasons_135 : decode cX7_giveReasons 135 = .ok (.putfield 90, 3) := by decide +kernel
theorem dX7_giveReasons_138 : decode cX7_giveReasons 138 = .ok (.iinc 5 1, 3) := by decide +kernel
theorem dX7_giveReasons_141 : decode cX7_giveReasons 141 = .ok (.goto (-87), 3) := by decide +kernel
theorem dX7_giveReasons_144 : decode cX7_giveReasons 144 = .ok (.return_, 1) := by decide +kernel
theorem dX7_reasonFor_0 : decode cX7_reasonFor 0 = .ok (.aload_n 0, 1) := by decide +kernel
theorem dX7_reasonFor_1 : decode cX7_reasonFor 1 = .ok (.getfield 49, 3) := by decide +kernel
theorem dX7_reasonFor_4 : decode cX7_reasonFor 4 = .ok (.ifCond .ne 5, 3) := by decide +kernel
theorem dX7_reasonFor_7 : decode cX7_reasonFor 7 = .ok (.iconst 1, 1) := by decide +kernel
theorem dX7_reasonFor_8 : decode cX7_reasonFor 8 = .ok (.ireturn, 1) := by decide +kernel
theorem dX7_reasonFor_9 : decode cX7_reasonFor 9 = .ok (.iload_n 1, 1) := by decide +kernel
theorem dX7_reasonFor_10 : decode cX7_reasonFor 10 = .ok (.ifCond .ne 5, 3) := by decide +kernel
theorem dX7_reasonFor_13 : decode cX7_reasonFor 13 = .ok (.iconst 2, 1) := by decide +kernel
theorem dX7_reasonFor_14 : decode cX7_reasonFor 14 = .ok (.ireturn, 1) := by decide +kernel
theorem dX7_reasonFor_15 : decode cX7_reasonFor 15 = .ok (.bipush 100, 2) := by decide +kernel
theorem dX7_reasonFor_17 : decode cX7_reasonFor 17 = .ok (.iload_n 1, 1) := by decide +kernel
theorem dX7_reasonFor_18 : decode cX7_reasonFor 18 = .ok (.imul, 1) := by decide +kernel
theorem dX7_reasonFor_19 : decode cX7_reasonFor 19 = .ok (.iload_n 2, 1) := by decide +kernel
theorem dX7_reasonFor_20 : decode cX7_reasonFor 20 = .ok (.if_icmp .ge 5, 3) := by decide +kernel
theorem dX7_reasonFor_23 : decode cX7_reasonFor 23 = .ok (.iconst 3, 1) := by decide +kernel
theorem dX7_reasonFor_24 : decode cX7_reasonFor 24 = .ok (.ireturn, 1) := by decide +kernel
theorem dX7_reasonFor_25 : decode cX7_reasonFor 25 = .ok (.iload_n 3, 1) := by decide +kernel
theorem dX7_reasonFor_26 : decode cX7_reasonFor 26 = .ok (.ifCond .eq 7, 3) := by decide +kernel
theorem dX7_reasonFor_29 : decode cX7_reasonFor 29 = .ok (.iconst 4, 1) := by decide +kernel
theorem dX7_reasonFor_30 : decode cX7_reasonFor 30 = .ok (.goto 4, 3) := by decide +kernel
theorem dX7_reasonFor_33 : decode cX7_reasonFor 33 = .ok (.iconst 0, 1) := by decide +kernel
theorem dX7_reasonFor_34 : decode cX7_reasonFor 34 = .ok (.ireturn, 1) := by decide +kernel
theorem dX7_tellSpeeds_0 : decode cX7_tellSpeeds 0 = .ok (.iconst (-1), 1) := by decide +kernel
theorem dX7_tellSpeeds_1 : decode cX7_tellSpeeds 1 = .ok (.istore_n 1, 1) := by decide +kernel
theorem dX7_tellSpeeds_2 : decode cX7_tellSpeeds 2 = .ok (.iconst 0, 1) := by decide +kernel
theorem dX7_tellSpeeds_3 : decode cX7_tellSpeeds 3 = .ok (.istore_n 2, 1) := by decide +kernel
theorem dX7_tellSpeeds_4 : decode cX7_tellSpeeds 4 = .ok (.iload_n 2, 1) := by decide +kernel
theorem dX7_tellSpeeds_5 : decode cX7_tellSpeeds 5 = .ok (.aload_n 0, 1) := by decide +kernel
theorem dX7_tellSpeeds_6 : decode cX7_tellSpeeds 6 = .ok (.getfield 44, 3) := by decide +kernel
theorem dX7_tellSpeeds_9 : decode cX7_tellSpeeds 9 = .ok (.if_icmp .ge 45, 3) := by decide +kernel
theorem dX7_tellSpeeds_12 : decode cX7_tellSpeeds 12 = .ok (.aload_n 0, 1) := by decide +kernel
theorem dX7_tellSpeeds_13 : decode cX7_tellSpeeds 13 = .ok (.getfield 15, 3) := by decide +kernel
theorem dX7_tellSpeeds_16 : decode cX7_tellSpeeds 16 = .ok (.iload_n 2, 1) := by decide +kernel
theorem dX7_tellSpeeds_17 : decode cX7_tellSpeeds 17 = .ok (.invokestatic 69, 3) := by decide +kernel
theorem dX7_tellSpeeds_20 : decode cX7_tellSpeeds 20 = .ok (.ifCond .ne 19, 3) := by decide +kernel
theorem dX7_tellSpeeds_23 : decode cX7_tellSpeeds 23 = .ok (.sipush 10000, 3) := by decide +kernel
theorem dX7_tellSpeeds_26 : decode cX7_tellSpeeds 26 = .ok (.aload_n 0, 1) := by decide +kernel
theorem dX7_tellSpeeds_27 : decode cX7_tellSpeeds 27 = .ok (.getfield 9, 3) := by decide +kernel
theorem dX7_tellSpeeds_30 : decode cX7_tellSpeeds 30 = .ok (.iload_n 2, 1) := by decide +kernel
theorem dX7_tellSpeeds_31 : decode cX7_tellSpeeds 31 = .ok (.invokestatic 69, 3) := by decide +kernel
theorem dX7_tellSpeeds_34 : decode cX7_tellSpeeds 34 = .ok (.imul, 1) := by decide +kernel
theorem dX7_tellSpeeds_35 : decode cX7_tellSpeeds 35 = .ok (.invokestatic 100, 3) := by decide +kernel
theorem dX7_tellSpeeds_38 : decode cX7_tellSpeeds 38 = .ok (.istore_n 1, 1) := by decide +kernel
theorem dX7_tellSpeeds_39 : decode cX7_tellSpeeds 39 = .ok (.aload_n 0, 1) := by decide +kernel
theorem dX7_tellSpeeds_40 : decode cX7_tellSpeeds 40 = .ok (.getfield 18, 3) := by decide +kernel
theorem dX7_tellSpeeds_43 : decode cX7_tellSpeeds 43 = .ok (.iload_n 2, 1) := by decide +kernel
theorem dX7_tellSpeeds_44 : decode cX7_tellSpeeds 44 = .ok (.iload_n 1, 1) := by decide +kernel
theorem dX7_tellSpeeds_45 : decode cX7_tellSpeeds 45 = .ok (.invokestatic 32, 3) := by decide +kernel
theorem dX7_tellSpeeds_48 : decode cX7_tellSpeeds 48 = .ok (.iinc 2 1, 3) := by decide +kernel
theorem dX7_tellSpeeds_51 : decode cX7_tellSpeeds 51 = .ok (.goto (-47), 3) := by decide +kernel
theorem dX7_tellSpeeds_54 : decode cX7_tellSpeeds 54 = .ok (.iconst (-1), 1) := by decide +kernel
theorem dX7_tellSpeeds_55 : decode cX7_tellSpeeds 55 = .ok (.istore_n 2, 1) := by decide +kernel
theorem dX7_tellSpeeds_56 : decode cX7_tellSpeeds 56 = .ok (.aload_n 0, 1) := by decide +kernel
theorem dX7_tellSpeeds_57 : decode cX7_tellSpeeds 57 = .ok (.getfield 44, 3) := by decide +kernel
theorem dX7_tellSpeeds_60 : decode cX7_tellSpeeds 60 = .ok (.iconst 1, 1) := by decide +kernel
theorem dX7_tellSpeeds_61 : decode cX7_tellSpeeds 61 = .ok (.isub, 1) := by decide +kernel
theorem dX7_tellSpeeds_62 : decode cX7_tellSpeeds 62 = .ok (.istore_n 3, 1) := by decide +kernel
theorem dX7_tellSpeeds_63 : decode cX7_tellSpeeds 63 = .ok (.iload_n 3, 1) := by decide +kernel
theorem dX7_tellSpeeds_64 : decode cX7_tellSpeeds 64 = .ok (.ifCond .lt 52, 3) := by decide +kernel
theorem dX7_tellSpeeds_67 : decode cX7_tellSpeeds 67 = .ok (.aload_n 0, 1) := by decide +kernel
theorem dX7_tellSpeeds_68 : decode cX7_tellSpeeds 68 = .ok (.getfield 15, 3) := by decide +kernel
theorem dX7_tellSpeeds_71 : decode cX7_tellSpeeds 71 = .ok (.iload_n 3, 1) := by decide +kernel
theorem dX7_tellSpeeds_72 : decode cX7_tellSpeeds 72 = .ok (.invokestatic 69, 3) := by decide +kernel
theorem dX7_tellSpeeds_75 : decode cX7_tellSpeeds 75 = .ok (.ifCond .ne 15, 3) := by decide +kernel
theorem dX7_tellSpeeds_78 : decode cX7_tellSpeeds 78 = .ok (.aload_n 0, 1) := by decide +kernel
theorem dX7_tellSpeeds_79 : decode cX7_tellSpeeds 79 = .ok (.getfield 18, 3) := by decide +kernel
theorem dX7_tellSpeeds_82 : decode cX7_tellSpeeds 82 = .ok (.iload_n 3, 1) := by decide +kernel
theorem dX7_tellSpeeds_83 : decode cX7_tellSpeeds 83 = .ok (.invokestatic 69, 3) := by decide +kernel
theorem dX7_tellSpeeds_86 : decode cX7_tellSpeeds 86 = .ok (.istore_n 2, 1) := by decide +kernel
theorem dX7_tellSpeeds_87 : decode cX7_tellSpeeds 87 = .ok (.goto 23, 3) := by decide +kernel
theorem dX7_tellSpeeds_90 : decode cX7_tellSpeeds 90 = .ok (.aload_n 0, 1) := by decide +kernel
theorem dX7_tellSpeeds_91 : decode cX7_tellSpeeds 91 = .ok (.getfield 18, 3) := by decide +kernel
theorem dX7_tellSpeeds_94 : decode cX7_tellSpeeds 94 = .ok (.iload_n 3, 1) := by decide +kernel
theorem dX7_tellSpeeds_95 : decode cX7_tellSpeeds 95 = .ok (.aload_n 0, 1) := by decide +kernel
theorem dX7_tellSpeeds_96 : decode cX7_tellSpeeds 96 = .ok (.getfield 18, 3) := by decide +kernel
theorem dX7_tellSpeeds_99 : decode cX7_tellSpeeds 99 = .ok (.iload_n 3, 1) := by decide +kernel
theorem dX7_tellSpeeds_100 : decode cX7_tellSpeeds 100 = .ok (.invokestatic 69, 3) := by decide +kernel
theorem dX7_tellSpeeds_103 : decode cX7_tellSpeeds 103 = .ok (.iload_n 2, 1) := by decide +kernel
theorem dX7_tellSpeeds_104 : decode cX7_tellSpeeds 104 = .ok (.invokestatic 104, 3) := by decide +kernel
theorem dX7_tellSpeeds_107 : decode cX7_tellSpeeds 107 = .ok (.invokestatic 32, 3) := by decide +kernel
theorem dX7_tellSpeeds_110 : decode cX7_tellSpeeds 110 = .ok (.iinc 3 (-1), 3) := by decide +kernel
theorem dX7_tellSpeeds_113 : decode cX7_tellSpeeds 113 = .ok (.goto (-50), 3) := by decide +kernel
theorem dX7_tellSpeeds_116 : decode cX7_tellSpeeds 116 = .ok (.return_, 1) := by decide +kernel
theorem dX7_mended_0 : decode cX7_mended 0 = .ok (.iload_n 0, 1) := by decide +kernel
theorem dX7_mended_1 : decode cX7_mended 1 = .ok (.iconst (-1), 1) := by decide +kernel
theorem dX7_mended_2 : decode cX7_mended 2 = .ok (.if_icmp .ne 5, 3) := by decide +kernel
theorem dX7_mended_5 : decode cX7_mended 5 = .ok (.iload_n 1, 1) := by decide +kernel
theorem dX7_mended_6 : decode cX7_mended 6 = .ok (.ireturn, 1) := by decide +kernel
theorem dX7_mended_7 : decode cX7_mended 7 = .ok (.iload_n 1, 1) := by decide +kernel
theorem dX7_mended_8 : decode cX7_mended 8 = .ok (.iconst (-1), 1) := by decide +kernel
theorem dX7_mended_9 : decode cX7_mended 9 = .ok (.if_icmp .ne 7, 3) := by decide +kernel
theorem dX7_mended_12 : decode cX7_mended 12 = .ok (.iload_n 0, 1) := by decide +kernel
theorem dX7_mended_13 : decode cX7_mended 13 = .ok (.goto 8, 3) := by decide +kernel
theorem dX7_mended_16 : decode cX7_mended 16 = .ok (.iload_n 0, 1) := by decide +kernel
theorem dX7_mended_17 : decode cX7_mended 17 = .ok (.iload_n 1, 1) := by decide +kernel
theorem dX7_mended_18 : decode cX7_mended 18 = .ok (.iadd, 1) := by decide +kernel
theorem dX7_mended_19 : decode cX7_mended 19 = .ok (.iconst 2, 1) := by decide +kernel
theorem dX7_mended_20 : decode cX7_mended 20 = .ok (.idiv, 1) := by decide +kernel
theorem dX7_mended_21 : decode cX7_mended 21 = .ok (.ireturn, 1) := by decide +kernel
theorem dX7_flowOfRings_0 : decode cX7_flowOfRings 0 = .ok (.aload_n 0, 1) := by decide +kernel
theorem dX7_flowOfRings_1 : decode cX7_flowOfRings 1 = .ok (.getfield 90, 3) := by decide +kernel
theorem dX7_flowOfRings_4 : decode cX7_flowOfRings 4 = .ok (.ifCond .ne 5, 3) := by decide +kernel
theorem dX7_flowOfRings_7 : decode cX7_flowOfRings 7 = .ok (.iconst (-1), 1) := by decide +kernel
theorem dX7_flowOfRings_8 : decode cX7_flowOfRings 8 = .ok (.ireturn, 1) := by decide +kernel
theorem dX7_flowOfRings_9 : decode cX7_flowOfRings 9 = .ok (.iconst 0, 1) := by decide +kernel
theorem dX7_flowOfRings_10 : decode cX7_flowOfRings 10 = .ok (.istore_n 3, 1) := by decide +kernel
theorem dX7_flowOfRings_11 : decode cX7_flowOfRings 11 = .ok (.iload_n 1, 1) := by decide +kernel
theorem dX7_flowOfRings_12 : decode cX7_flowOfRings 12 = .ok (.istore 4, 2) := by decide +kernel
theorem dX7_flowOfRings_14 : decode cX7_flowOfRings 14 = .ok (.iload 4, 2) := by decide +kernel
theorem dX7_flowOfRings_16 : decode cX7_flowOfRings 16 = .ok (.iload_n 2, 1) := by decide +kernel
theorem dX7_flowOfRings_17 : decode cX7_flowOfRings 17 = .ok (.if_icmp .ge 32, 3) := by decide +kernel
theorem dX7_flowOfRings_20 : decode cX7_flowOfRings 20 = .ok (.iload_n 3, 1) := by decide +kernel
theorem dX7_flowOfRings_21 : decode cX7_flowOfRings 21 = .ok (.aload_n 0, 1) := by decide +kernel
theorem dX7_flowOfRings_22 : decode cX7_flowOfRings 22 = .ok (.getfield 18, 3) := by decide +kernel
theorem dX7_flowOfRings_25 : decode cX7_flowOfRings 25 = .ok (.iload 4, 2) := by decide +kernel
theorem dX7_flowOfRings_27 : decode cX7_flowOfRings 27 = .ok (.invokestatic 69, 3) := by decide +kernel
theorem dX7_flowOfRings_30 : decode cX7_flowOfRings 30 = .ok (.aload_n 0, 1) := by decide +kernel
theorem dX7_flowOfRings_31 : decode cX7_flowOfRings 31 = .ok (.getfield 48, 3) := by decide +kernel
theorem dX7_flowOfRings_34 : decode cX7_flowOfRings 34 = .ok (.aload_n 0, 1) := by decide +kernel
theorem dX7_flowOfRings_35 : decode cX7_flowOfRings 35 = .ok (.getfield 44, 3) := by decide +kernel
theorem dX7_flowOfRings_38 : decode cX7_flowOfRings 38 = .ok (.invokestatic 107, 3) := by decide +kernel
theorem dX7_flowOfRings_41 : decode cX7_flowOfRings 41 = .ok (.iadd, 1) := by decide +kernel
theorem dX7_flowOfRings_42 : decode cX7_flowOfRings 42 = .ok (.istore_n 3, 1) := by decide +kernel
theorem dX7_flowOfRings_43 : decode cX7_flowOfRings 43 = .ok (.iinc 4 1, 3) := by decide +kernel
theorem dX7_flowOfRings_46 : decode cX7_flowOfRings 46 = .ok (.goto (-32), 3) := by decide +kernel
theorem dX7_flowOfRings_49 : decode cX7_flowOfRings 49 = .ok (.iload_n 3, 1) := by decide +kernel
theorem dX7_flowOfRings_50 : decode cX7_flowOfRings 50 = .ok (.ireturn, 1) := by decide +kernel
theorem dX7_countOfReason_0 : decode cX7_countOfReason 0 = .ok (.iconst 0, 1) := by decide +kernel
theorem dX7_countOfReason_1 : decode cX7_countOfReason 1 = .ok (.istore_n 2, 1) := by decide +kernel
theorem dX7_countOfReason_2 : decode cX7_countOfReason 2 = .ok (.iconst 0, 1) := by decide +kernel
theorem dX7_countOfReason_3 : decode cX7_countOfReason 3 = .ok (.istore_n 3, 1) := by decide +kernel
theorem dX7_countOfReason_4 : decode cX7_countOfReason 4 = .ok (.iload_n 3, 1) := by decide +kernel
theorem dX7_countOfReason_5 : decode cX7_countOfReason 5 = .ok (.aload_n 0, 1) := by decide +kernel
theorem dX7_countOfReason_6 : decode cX7_countOfReason 6 = .ok (.getfield 44, 3) := by decide +kernel
theorem dX7_countOfReason_9 : decode cX7_countOfReason 9 = .ok (.if_icmp .ge 29, 3) := by decide +kernel
theorem dX7_countOfReason_12 : decode cX7_countOfReason 12 = .ok (.iload_n 2, 1) := by decide +kernel
theorem dX7_countOfReason_13 : decode cX7_countOfReason 13 = .ok (.aload_n 0, 1) := by decide +kernel
theorem dX7_countOfReason_14 : decode cX7_countOfReason 14 = .ok (.getfield 15, 3) := by decide +kernel
theorem dX7_countOfReason_17 : decode cX7_countOfReason 17 = .ok (.iload_n 3, 1) := by decide +kernel
theorem dX7_countOfReason_18 : decode cX7_countOfReason 18 = .ok (.invokestatic 69, 3) := by decide +kernel
theorem dX7_countOfReason_21 : decode cX7_countOfReason 21 = .ok (.iload_n 1, 1) := by decide +kernel
theorem dX7_countOfReason_22 : decode cX7_countOfReason 22 = .ok (.if_icmp .ne 7, 3) := by decide +kernel
theorem dX7_countOfReason_25 : decode cX7_countOfReason 25 = .ok (.iconst 1, 1) := by decide +kernel
theorem dX7_countOfReason_26 : decode cX7_countOfReason 26 = .ok (.goto 4, 3) := by decide +kernel
theorem dX7_countOfReason_29 : decode cX7_countOfReason 29 = .ok (.iconst 0, 1) := by decide +kernel
theorem dX7_countOfReason_30 : decode cX7_countOfReason 30 = .ok (.iadd, 1) := by decide +kernel
theorem dX7_countOfReason_31 : decode cX7_countOfReason 31 = .ok (.istore_n 2, 1) := by decide +kernel
theorem dX7_countOfReason_32 : decode cX7_countOfReason 32 = .ok (.iinc 3 1, 3) := by decide +kernel
theorem dX7_countOfReason_35 : decode cX7_countOfReason 35 = .ok (.goto (-31), 3) := by decide +kernel
theorem dX7_countOfReason_38 : decode cX7_countOfReason 38 = .ok (.iload_n 2, 1) := by decide +kernel
theorem dX7_countOfReason_39 : decode cX7_countOfReason 39 = .ok (.ireturn, 1) := by decide +kernel
theorem dX7_leastByGreatest_0 : decode cX7_leastByGreatest 0 = .ok (.aload_n 0, 1) := by decide +kernel
theorem dX7_leastByGreatest_1 : decode cX7_leastByGreatest 1 = .ok (.getfield 90, 3) := by decide +kernel
theorem dX7_leastByGreatest_4 : decode cX7_leastByGreatest 4 = .ok (.ifCond .ne 5, 3) := by decide +kernel
theorem dX7_leastByGreatest_7 : decode cX7_leastByGreatest 7 = .ok (.dconst 0, 1) := by decide +kernel
theorem dX7_leastByGreatest_8 : decode cX7_leastByGreatest 8 = .ok (.dreturn, 1) := by decide +kernel
theorem dX7_leastByGreatest_9 : decode cX7_leastByGreatest 9 = .ok (.aload_n 0, 1) := by decide +kernel
theorem dX7_leastByGreatest_10 : decode cX7_leastByGreatest 10 = .ok (.getfield 18, 3) := by decide +kernel
theorem dX7_leastByGreatest_13 : decode cX7_leastByGreatest 13 = .ok (.iconst 0, 1) := by decide +kernel
theorem dX7_leastByGreatest_14 : decode cX7_leastByGreatest 14 = .ok (.invokestatic 69, 3) := by decide +kernel
theorem dX7_leastByGreatest_17 : decode cX7_leastByGreatest 17 = .ok (.istore_n 1, 1) := by decide +kernel
theorem dX7_leastByGreatest_18 : decode cX7_leastByGreatest 18 = .ok (.iload_n 1, 1) := by decide +kernel
theorem dX7_leastByGreatest_19 : decode cX7_leastByGreatest 19 = .ok (.istore_n 2, 1) := by decide +kernel
theorem dX7_leastByGreatest_20 : decode cX7_leastByGreatest 20 = .ok (.iconst 1, 1) := by decide +kernel
theorem dX7_leastByGreatest_21 : decode cX7_leastByGreatest 21 = .ok (.istore_n 3, 1) := by decide +kernel
theorem dX7_leastByGreatest_22 : decode cX7_leastByGreatest 22 = .ok (.iload_n 3, 1) := by decide +kernel
theorem dX7_leastByGreatest_23 : decode cX7_leastByGreatest 23 = .ok (.aload_n 0, 1) := by decide +kernel
theorem dX7_leastByGreatest_24 : decode cX7_leastByGreatest 24 = .ok (.getfield 44, 3) := by decide +kernel
theorem dX7_leastByGreatest_27 : decode cX7_leastByGreatest 27 = .ok (.if_icmp .ge 35, 3) := by decide +kernel
theorem dX7_leastByGreatest_30 : decode cX7_leastByGreatest 30 = .ok (.iload_n 1, 1) := by decide +kernel
theorem dX7_leastByGreatest_31 : decode cX7_leastByGreatest 31 = .ok (.aload_n 0, 1) := by decide +kernel
theorem dX7_leastByGreatest_32 : decode cX7_leastByGreatest 32 = .ok (.getfield 18, 3) := by decide +kernel
theorem dX7_leastByGreatest_35 : decode cX7_leastByGreatest 35 = .ok (.iload_n 3, 1) := by decide +kernel
theorem dX7_leastByGreatest_36 : decode cX7_leastByGreatest 36 = .ok (.invokestatic 69, 3) := by decide +kernel
theorem dX7_leastByGreatest_39 : decode cX7_leastByGreatest 39 = .ok (.invokestatic 113, 3) := by decide +kernel
theorem dX7_leastByGreatest_42 : decode cX7_leastByGreatest 42 = .ok (.istore_n 1, 1) := by decide +kernel
theorem dX7_leastByGreatest_43 : decode cX7_leastByGreatest 43 = .ok (.iload_n 2, 1) := by decide +kernel
theorem dX7_leastByGreatest_44 : decode cX7_leastByGreatest 44 = .ok (.aload_n 0, 1) := by decide +kernel
theorem dX7_leastByGreatest_45 : decode cX7_leastByGreatest 45 = .ok (.getfield 18, 3) := by decide +kernel
theorem dX7_leastByGreatest_48 : decode cX7_leastByGreatest 48 = .ok (.iload_n 3, 1) := by decide +kernel
theorem dX7_leastByGreatest_49 : decode cX7_leastByGreatest 49 = .ok (.invokestatic 69, 3) := by decide +kernel
theorem dX7_leastByGreatest_52 : decode cX7_leastByGreatest 52 = .ok (.invokestatic 82, 3) := by decide +kernel
theorem dX7_leastByGreatest_55 : decode cX7_leastByGreatest 55 = .ok (.istore_n 2, 1) := by decide +kernel
theorem dX7_leastByGreatest_56 : decode cX7_leastByGreatest 56 = .ok (.iinc 3 1, 3) := by decide +kernel
theorem dX7_leastByGreatest_59 : decode cX7_leastByGreatest 59 = .ok (.goto (-37), 3) := by decide +kernel
theorem dX7_leastByGreatest_62 : decode cX7_leastByGreatest 62 = .ok (.iload_n 2, 1) := by decide +kernel
theorem dX7_leastByGreatest_63 : decode cX7_leastByGreatest 63 = .ok (.ifCond .le 11, 3) := by decide +kernel
theorem dX7_leastByGreatest_66 : decode cX7_leastByGreatest 66 = .ok (.iload_n 1, 1) := by decide +kernel
theorem dX7_leastByGreatest_67 : decode cX7_leastByGreatest 67 = .ok (.i2d, 1) := by decide +kernel
theorem dX7_leastByGreatest_68 : decode cX7_leastByGreatest 68 = .ok (.iload_n 2, 1) := by decide +kernel
theorem dX7_leastByGreatest_69 : decode cX7_leastByGreatest 69 = .ok (.i2d, 1) := by decide +kernel
theorem dX7_leastByGreatest_70 : decode cX7_leastByGreatest 70 = .ok (.ddiv, 1) := by decide +kernel
theorem dX7_leastByGreatest_71 : decode cX7_leastByGreatest 71 = .ok (.goto 4, 3) := by decide +kernel
theorem dX7_leastByGreatest_74 : decode cX7_leastByGreatest 74 = .ok (.dconst 0, 1) := by decide +kernel
theorem dX7_leastByGreatest_75 : decode cX7_leastByGreatest 75 = .ok (.dreturn, 1) := by decide +kernel
theorem dX8_distance_0 : decode cX8_distance 0 = .ok (.iload_n 0, 1) := by decide +kernel
theorem dX8_distance_1 : decode cX8_distance 1 = .ok (.iload_n 0, 1) := by decide +kernel
theorem dX8_distance_2 : decode cX8_distance 2 = .ok (.imul, 1) := by decide +kernel
theorem dX8_distance_3 : decode cX8_distance 3 = .ok (.iconst 2, 1) := by decide +kernel
theorem dX8_distance_4 : decode cX8_distance 4 = .ok (.iload_n 1, 1) := by decide +kernel
theorem dX8_distance_5 : decode cX8_distance 5 = .ok (.imul, 1) := by decide +kernel
theorem dX8_distance_6 : decode cX8_distance 6 = .ok (.iconst 1, 1) := by decide +kernel
theorem dX8_distance_7 : decode cX8_distance 7 = .ok (.iadd, 1) := by decide +kernel
theorem dX8_distance_8 : decode cX8_distance 8 = .ok (.imul, 1) := by decide +kernel
theorem dX8_distance_9 : decode cX8_distance 9 = .ok (.iconst 2, 1) := by decide +kernel
theorem dX8_distance_10 : decode cX8_distance 10 = .ok (.iload_n 2, 1) := by decide +kernel
theorem dX8_distance_11 : decode cX8_distance 11 = .ok (.imul, 1) := by decide +kernel
theorem dX8_distance_12 : decode cX8_distance 12 = .ok (.invokestatic 9, 3) := by decide +kernel
theorem dX8_distance_15 : decode cX8_distance 15 = .ok (.invokestatic 15, 3) := by decide +kernel
theorem dX8_distance_18 : decode cX8_distance 18 = .ok (.ireturn, 1) := by decide +kernel
theorem dX8_speedAt_0 : decode cX8_speedAt 0 = .ok (.aload_n 0, 1) := by decide +kernel
theorem dX8_speedAt_1 : decode cX8_speedAt 1 = .ok (.getfield 19, 3) := by decide +kernel
theorem dX8_speedAt_4 : decode cX8_speedAt 4 = .ok (.iload_n 1, 1) := by decide +kernel
theorem dX8_speedAt_5 : decode cX8_speedAt 5 = .ok (.iload_n 2, 1) := by decide +kernel
theorem dX8_speedAt_6 : decode cX8_speedAt 6 = .ok (.invokestatic 25, 3) := by decide +kernel
theorem dX8_speedAt_9 : decode cX8_speedAt 9 = .ok (.istore_n 3, 1) := by decide +kernel
theorem dX8_speedAt_10 : decode cX8_speedAt 10 = .ok (.aload_n 0, 1) := by decide +kernel
theorem dX8_speedAt_11 : decode cX8_speedAt 11 = .ok (.getfield 31, 3) := by decide +kernel
theorem dX8_speedAt_14 : decode cX8_speedAt 14 = .ok (.iconst 0, 1) := by decide +kernel
theorem dX8_speedAt_15 : decode cX8_speedAt 15 = .ok (.invokestatic 35, 3) := by decide +kernel
theorem dX8_speedAt_18 : decode cX8_speedAt 18 = .ok (.istore 4, 2) := by decide +kernel
theorem dX8_speedAt_20 : decode cX8_speedAt 20 = .ok (.iload 4, 2) := by decide +kernel
theorem dX8_speedAt_22 : decode cX8_speedAt 22 = .ok (.aload_n 0, 1) := by decide +kernel
theorem dX8_speedAt_23 : decode cX8_speedAt 23 = .ok (.getfield 31, 3) := by decide +kernel
theorem dX8_speedAt_26 : decode cX8_speedAt 26 = .ok (.iconst 1, 1) := by decide +kernel
theorem dX8_speedAt_27 : decode cX8_speedAt 27 = .ok (.invokestatic 35, 3) := by decide +kernel
theorem dX8_speedAt_30 : decode cX8_speedAt 30 = .ok (.imul, 1) := by decide +kernel
theorem dX8_speedAt_31 : decode cX8_speedAt 31 = .ok (.iload_n 3, 1) := by decide +kernel
theorem dX8_speedAt_32 : decode cX8_speedAt 32 = .ok (.imul, 1) := by decide +kernel
theorem dX8_speedAt_33 : decode cX8_speedAt 33 = .ok (.istore 5, 2) := by decide +kernel
theorem dX8_speedAt_35 : decode cX8_speedAt 35 = .ok (.aload_n 0, 1) := by decide +kernel
theorem dX8_speedAt_36 : decode cX8_speedAt 36 = .ok (.getfield 31, 3) := by decide +kernel
theorem dX8_speedAt_39 : decode cX8_speedAt 39 = .ok (.iconst 2, 1) := by decide +kernel
theorem dX8_speedAt_40 : decode cX8_speedAt 40 = .ok (.invokestatic 35, 3) := by decide +kernel
theorem dX8_speedAt_43 : decode cX8_speedAt 43 = .ok (.iload_n 3, 1) := by decide +kernel
theorem dX8_speedAt_44 : decode cX8_speedAt 44 = .ok (.imul, 1) := by decide +kernel
theorem dX8_speedAt_45 : decode cX8_speedAt 45 = .ok (.istore 6, 2) := by decide +kernel
theorem dX8_speedAt_47 : decode cX8_speedAt 47 = .ok (.iload 4, 2) := by decide +kernel
theorem dX8_speedAt_49 : decode cX8_speedAt 49 = .ok (.iload 5, 2) := by decide +kernel
theorem dX8_speedAt_51 : decode cX8_speedAt 51 = .ok (.bipush 100, 2) := by decide +kernel
theorem dX8_speedAt_53 : decode cX8_speedAt 53 = .ok (.aload_n 0, 1) := by decide +kernel
theorem dX8_speedAt_54 : decode cX8_speedAt 54 = .ok (.getfield 19, 3) := by decide +kernel
theorem dX8_speedAt_57 : decode cX8_speedAt 57 = .ok (.imul, 1) := by decide +kernel
theorem dX8_speedAt_58 : decode cX8_speedAt 58 = .ok (.invokestatic 9, 3) := by decide +kernel
theorem dX8_speedAt_61 : decode cX8_speedAt 61 = .ok (.isub, 1) := by decide +kernel
theorem dX8_speedAt_62 : decode cX8_speedAt 62 = .ok (.iload 6, 2) := by decide +kernel
theorem dX8_speedAt_64 : decode cX8_speedAt 64 = .ok (.aload_n 0, 1) := by decide +kernel
theorem dX8_speedAt_65 : decode cX8_speedAt 65 = .ok (.getfield 19, 3) := by decide +kernel
theorem dX8_speedAt_68 : decode cX8_speedAt 68 = .ok (.invokestatic 9, 3) := by decide +kernel
theorem dX8_speedAt_71 : decode cX8_speedAt 71 = .ok (.iadd, 1) := by decide +kernel
theorem dX8_speedAt_72 : decode cX8_speedAt 72 = .ok (.ireturn, 1) := by decide +kernel
theorem dX8_headAt_0 : decode cX8_headAt 0 = .ok (.aload_n 0, 1) := by decide +kernel
theorem dX8_headAt_1 : decode cX8_headAt 1 = .ok (.iload_n 1, 1) := by decide +kernel
theorem dX8_headAt_2 : decode cX8_headAt 2 = .ok (.aload_n 0, 1) := by decide +kernel
theorem dX8_headAt_3 : decode cX8_headAt 3 = .ok (.getfield 41, 3) := by decide +kernel
theorem dX8_headAt_6 : decode cX8_headAt 6 = .ok (.invokestatic 44, 3) := by decide +kernel
theorem dX8_headAt_9 : decode cX8_headAt 9 = .ok (.istore_n 2, 1) := by decide +kernel
theorem dX8_headAt_10 : decode cX8_headAt 10 = .ok (.iload_n 2, 1) := by decide +kernel
theorem dX8_headAt_11 : decode cX8_headAt 11 = .ok (.iload_n 2, 1) := by decide +kernel
theorem dX8_headAt_12 : decode cX8_headAt 12 = .ok (.imul, 1) := by decide +kernel
theorem dX8_headAt_13 : decode cX8_headAt 13 = .ok (.sipush 10000, 3) := by decide +kernel
theorem dX8_headAt_16 : decode cX8_headAt 16 = .ok (.idiv, 1) := by decide +kernel
theorem dX8_headAt_17 : decode cX8_headAt 17 = .ok (.ireturn, 1) := by decide +kernel
theorem dX8_feltAt_0 : decode cX8_feltAt 0 = .ok (.iload_n 2, 1) := by decide +kernel
theorem dX8_feltAt_1 : decode cX8_feltAt 1 = .ok (.aload_n 0, 1) := by decide +kernel
theorem dX8_feltAt_2 : decode cX8_feltAt 2 = .ok (.getfield 48, 3) := by decide +kernel
theorem dX8_feltAt_5 : decode cX8_feltAt 5 = .ok (.iload_n 1, 1) := by decide +kernel
theorem dX8_feltAt_6 : decode cX8_feltAt 6 = .ok (.invokestatic 35, 3) := by decide +kernel
theorem dX8_feltAt_9 : decode cX8_feltAt 9 = .ok (.imul, 1) := by decide +kernel
theorem dX8_feltAt_10 : decode cX8_feltAt 10 = .ok (.bipush 100, 2) := by decide +kernel
theorem dX8_feltAt_12 : decode cX8_feltAt 12 = .ok (.idiv, 1) := by decide +kernel
theorem dX8_feltAt_13 : decode cX8_feltAt 13 = .ok (.istore_n 3, 1) := by decide +kernel
theorem dX8_feltAt_14 : decode cX8_feltAt 14 = .ok (.iload_n 3, 1) := by decide +kernel
theorem dX8_feltAt_15 : decode cX8_feltAt 15 = .ok (.iload_n 3, 1) := by decide +kernel
theorem dX8_feltAt_16 : decode cX8_feltAt 16 = .ok (.aload_n 0, 1) := by decide +kernel
theorem dX8_feltAt_17 : decode cX8_feltAt 17 = .ok (.getfield 51, 3) := by decide +kernel
theorem dX8_feltAt_20 : decode cX8_feltAt 20 = .ok (.iload_n 1, 1) := by decide +kernel
theorem dX8_feltAt_21 : decode cX8_feltAt 21 = .ok (.invokestatic 35, 3) := by decide +kernel
theorem dX8_feltAt_24 : decode cX8_feltAt 24 = .ok (.imul, 1) := by decide +kernel
theorem dX8_feltAt_25 : decode cX8_feltAt 25 = .ok (.bipush 100, 2) := by decide +kernel
theorem dX8_feltAt_27 : decode cX8_feltAt 27 = .ok (.idiv, 1) := by decide +kernel
theorem dX8_feltAt_28 : decode cX8_feltAt 28 = .ok (.isub, 1) := by decide +kernel
theorem dX8_feltAt_29 : decode cX8_feltAt 29 = .ok (.ireturn, 1) := by decide +kernel
theorem dX8_whole_0 : decode cX8_whole 0 = .ok (.iconst 0, 1) := by decide +kernel
theorem dX8_whole_1 : decode cX8_whole 1 = .ok (.istore_n 2, 1) := by decide +kernel
theorem dX8_whole_2 : decode cX8_whole 2 = .ok (.iconst 0, 1) := by decide +kernel
theorem dX8_whole_3 : decode cX8_whole 3 = .ok (.istore_n 3, 1) := by decide +kernel
theorem dX8_whole_4 : decode cX8_whole 4 = .ok (.iload_n 3, 1) := by decide +kernel
theorem dX8_whole_5 : decode cX8_whole 5 = .ok (.iload_n 1, 1) := by decide +kernel
theorem dX8_whole_6 : decode cX8_whole 6 = .ok (.if_icmp .ge 26, 3) := by decide +kernel
theorem dX8_whole_9 : decode cX8_whole 9 = .ok (.iload_n 2, 1) := by decide +kernel
theorem dX8_whole_10 : decode cX8_whole 10 = .ok (.aload_n 0, 1) := by decide +kernel
theorem dX8_whole_11 : decode cX8_whole 11 = .ok (.iload_n 3, 1) := by decide +kernel
theorem dX8_whole_12 : decode cX8_whole 12 = .ok (.iload_n 1, 1) := by decide +kernel
theorem dX8_whole_13 : decode cX8_whole 13 = .ok (.invokestatic 44, 3) := by decide +kernel
theorem dX8_whole_16 : decode cX8_whole 16 = .ok (.aload_n 0, 1) := by decide +kernel
theorem dX8_whole_17 : decode cX8_whole 17 = .ok (.getfield 19, 3) := by decide +kernel
theorem dX8_whole_20 : decode cX8_whole 20 = .ok (.iload_n 1, 1) := by decide +kernel
theorem dX8_whole_21 : decode cX8_whole 21 = .ok (.invokestatic 54, 3) := by decide +kernel
theorem dX8_whole_24 : decode cX8_whole 24 = .ok (.iadd, 1) := by decide +kernel
theorem dX8_whole_25 : decode cX8_whole 25 = .ok (.istore_n 2, 1) := by decide +kernel
theorem dX8_whole_26 : decode cX8_whole 26 = .ok (.iinc 3 1, 3) := by decide +kernel
theorem dX8_whole_29 : decode cX8_whole 29 = .ok (.goto (-25), 3) := by decide +kernel
theorem dX8_whole_32 : decode cX8_whole 32 = .ok (.iload_n 2, 1) := by decide +kernel
theorem dX8_whole_33 : decode cX8_whole 33 = .ok (.ireturn, 1) := by decide +kernel
theorem dX8_flowOfRing_0 : decode cX8_flowOfRing 0 = .ok (.iload_n 0, 1) := by decide +kernel
theorem dX8_flowOfRing_1 : decode cX8_flowOfRing 1 = .ok (.iload_n 1, 1) := by decide +kernel
theorem dX8_flowOfRing_2 : decode cX8_flowOfRing 2 = .ok (.iload_n 1, 1) := by decide +kernel
theorem dX8_flowOfRing_3 : decode cX8_flowOfRing 3 = .ok (.imul, 1) := by decide +kernel
theorem dX8_flowOfRing_4 : decode cX8_flowOfRing 4 = .ok (.bipush 100, 2) := by decide +kernel
theorem dX8_flowOfRing_6 : decode cX8_flowOfRing 6 = .ok (.idiv, 1) := by decide +kernel
theorem dX8_flowOfRing_7 : decode cX8_flowOfRing 7 = .ok (.imul, 1) := by decide +kernel
theorem dX8_flowOfRing_8 : decode cX8_flowOfRing 8 = .ok (.iload_n 2, 1) := by decide +kernel
theorem dX8_flowOfRing_9 : decode cX8_flowOfRing 9 = .ok (.invokestatic 9, 3) := by decide +kernel
theorem dX8_flowOfRing_12 : decode cX8_flowOfRing 12 = .ok (.ireturn, 1) := by decide +kernel
theorem dX9_init_0 : decode cX9_init 0 = .ok (.aload_n 0, 1) := by decide +kernel
theorem dX9_init_1 : decode cX9_init 1 = .ok (.invokespecial 1, 3) := by decide +kernel
theorem dX9_init_4 : decode cX9_init 4 = .ok (.aload_n 0, 1) := by decide +kernel
theorem dX9_init_5 : decode cX9_init 5 = .ok (.new 7, 3) := by decide +kernel
theorem dX9_init_8 : decode cX9_init 8 = .ok (.dup, 1) := by decide +kernel
theorem dX9_init_9 : decode cX9_init 9 = .ok (.invokespecial 9, 3) := by decide +kernel
theorem dX9_init_12 : decode cX9_init 12 = .ok (.putfield 10, 3) := by decide +kernel
theorem dX9_init_15 : decode cX9_init 15 = .ok (.aload_n 0, 1) := by decide +kernel
theorem dX9_init_16 : decode cX9_init 16 = .ok (.new 16, 3) := by decide +kernel
theorem dX9_init_19 : decode cX9_init 19 = .ok (.dup, 1) := by decide +kernel
theorem dX9_init_20 : decode cX9_init 20 = .ok (.invokespecial 18, 3) := by decide +kernel
theorem dX9_init_23 : decode cX9_init 23 = .ok (.putfield 19, 3) := by decide +kernel
theorem dX9_init_26 : decode cX9_init 26 = .ok (.aload_n 0, 1) := by decide +kernel
theorem dX9_init_27 : decode cX9_init 27 = .ok (.new 23, 3) := by decide +kernel
theorem dX9_init_30 : decode cX9_init 30 = .ok (.dup, 1) := by decide +kernel
theorem dX9_init_31 : decode cX9_init 31 = .ok (.invokespecial 25, 3) := by decide +kernel
theorem dX9_init_34 : decode cX9_init 34 = .ok (.putfield 26, 3) := by decide +kernel
theorem dX9_init_37 : decode cX9_init 37 = .ok (.aload_n 0, 1) := by decide +kernel
theorem dX9_init_38 : decode cX9_init 38 = .ok (.new 23, 3) := by decide +kernel
theorem dX9_init_41 : decode cX9_init 41 = .ok (.dup, 1) := by decide +kernel
theorem dX9_init_42 : decode cX9_init 42 = .ok (.invokespecial 25, 3) := by decide +kernel
theorem dX9_init_45 : decode cX9_init 45 = .ok (.putfield 30, 3) := by decide +kernel
theorem dX9_init_48 : decode cX9_init 48 = .ok (.aload_n 0, 1) := by decide +kernel
theorem dX9_init_49 : decode cX9_init 49 = .ok (.new 33, 3) := by decide +kernel
theorem dX9_init_52 : decode cX9_init 52 = .ok (.dup, 1) := by decide +kernel
theorem dX9_init_53 : decode cX9_init 53 = .ok (.invokespecial 35, 3) := by decide +kernel
theorem dX9_init_56 : decode cX9_init 56 = .ok (.putfield 36, 3) := by decide +kernel
theorem dX9_init_59 : decode cX9_init 59 = .ok (.aload_n 0, 1) := by decide +kernel
theorem dX9_init_60 : decode cX9_init 60 = .ok (.new 40, 3) := by decide +kernel
theorem dX9_init_63 : decode cX9_init 63 = .ok (.dup, 1) := by decide +kernel
theorem dX9_init_64 : decode cX9_init 64 = .ok (.invokespecial 42, 3) := by decide +kernel
theorem dX9_init_67 : decode cX9_init 67 = .ok (.putfield 43, 3) := by decide +kernel
theorem dX9_init_70 : decode cX9_init 70 = .ok (.aload_n 0, 1) := by decide +kernel
theorem dX9_init_71 : decode cX9_init 71 = .ok (.new 40, 3) := by decide +kernel
theorem dX9_init_74 : decode cX9_init 74 = .ok (.dup, 1) := by decide +kernel
theorem dX9_init_75 : decode cX9_init 75 = .ok (.invokespecial 42, 3) := by decide +kernel
theorem dX9_init_78 : decode cX9_init 78 = .ok (.putfield 47, 3) := by decide +kernel
theorem dX9_init_81 : decode cX9_init 81 = .ok (.aload_n 0, 1) := by decide +kernel
theorem dX9_init_82 : decode cX9_init 82 = .ok (.bipush 8, 2) := by decide +kernel
theorem dX9_init_84 : decode cX9_init 84 = .ok (.newarray .int, 2) := by decide +kernel
theorem dX9_init_86 : decode cX9_init 86 = .ok (.putfield 50, 3) := by decide +kernel
theorem dX9_init_89 : decode cX9_init 89 = .ok (.return_, 1) := by decide +kernel
theorem dX9_rake_0 : decode cX9_rake 0 = .ok (.iload_n 1, 1) := by decide +kernel
theorem dX9_rake_1 : decode cX9_rake 1 = .ok (.invokestatic 54, 3) := by decide +kernel
theorem dX9_rake_4 : decode cX9_rake 4 = .ok (.ifCond .eq 13, 3) := by decide +kernel
theorem dX9_rake_7 : decode cX9_rake 7 = .ok (.new 58, 3) := by decide +kernel
theorem dX9_rake_10 : decode cX9_rake 10 = .ok (.dup, 1) := by decide +kernel
theorem dX9_rake_11 : decode cX9_rake 11 = .ok (.ldc 60, 2) := by decide +kernel
theorem dX9_rake_13 : decode cX9_rake 13 = .ok (.invokespecial 62, 3) := by decide +kernel
theorem dX9_rake_16 : decode cX9_rake 16 = .ok (.athrow, 1) := by decide +kernel
theorem dX9_rake_17 : decode cX9_rake 17 = .ok (.aload_n 0, 1) := by decide +kernel
theorem dX9_rake_18 : decode cX9_rake 18 = .ok (.getfield 19, 3) := by decide +kernel
theorem dX9_rake_21 : decode cX9_rake 21 = .ok (.aload_n 0, 1) := by decide +kernel
theorem dX9_rake_22 : decode cX9_rake 22 = .ok (.getfield 10, 3) := by decide +kernel
theorem dX9_rake_25 : decode cX9_rake 25 = .ok (.invokevirtual 65, 3) := by decide +kernel
theorem dX9_rake_28 : decode cX9_rake 28 = .ok (.aload_n 0, 1) := by decide +kernel
theorem dX9_rake_29 : decode cX9_rake 29 = .ok (.getfield 10, 3) := by decide +kernel
theorem dX9_rake_32 : decode cX9_rake 32 = .ok (.getfield 69, 3) := by decide +kernel
theorem dX9_rake_35 : decode cX9_rake 35 = .ok (.istore_n 2, 1) := by decide +kernel
theorem dX9_rake_36 : decode cX9_rake 36 = .ok (.aload_n 0, 1) := by decide +kernel
theorem dX9_rake_37 : decode cX9_rake 37 = .ok (.getfield 10, 3) := by decide +kernel
theorem dX9_rake_40 : decode cX9_rake 40 = .ok (.iload_n 1, 1) := by decide +kernel
theorem dX9_rake_41 : decode cX9_rake 41 = .ok (.invokevirtual 73, 3) := by decide +kernel
theorem dX9_rake_44 : decode cX9_rake 44 = .ok (.iload_n 2, 1) := by decide +kernel
theorem dX9_rake_45 : decode cX9_rake 45 = .ok (.ireturn, 1) := by decide +kernel
theorem dX9_radius_0 : decode cX9_radius 0 = .ok (.iload_n 1, 1) := by decide +kernel
theorem dX9_radius_1 : decode cX9_radius 1 = .ok (.bipush 50, 2) := by decide +kernel
theorem dX9_radius_3 : decode cX9_radius 3 = .ok (.if_icmp .lt 10, 3) := by decide +kernel
theorem dX9_radius_6 : decode cX9_radius 6 = .ok (.iload_n 1, 1) := by decide +kernel
theorem dX9_radius_7 : decode cX9_radius 7 = .ok (.sipush 500, 3) := by decide +kernel
theorem dX9_radius_10 : decode cX9_radius 10 = .ok (.if_icmp .le 13, 3) := by decide +kernel
theorem dX9_radius_13 : decode cX9_radius 13 = .ok (.new 58, 3) := by decide +kernel
theorem dX9_radius_16 : decode cX9_radius 16 = .ok (.dup, 1) := by decide +kernel
theorem dX9_radius_17 : decode cX9_radius 17 = .ok (.ldc 77, 2) := by decide +kernel
theorem dX9_radius_19 : decode cX9_radius 19 = .ok (.invokespecial 62, 3) := by decide +kernel
theorem dX9_radius_22 : decode cX9_radius 22 = .ok (.athrow, 1) := by decide +kernel
theorem dX9_radius_23 : decode cX9_radius 23 = .ok (.aload_n 0, 1) := by decide +kernel
theorem dX9_radius_24 : decode cX9_radius 24 = .ok (.getfield 19, 3) := by decide +kernel
theorem dX9_radius_27 : decode cX9_radius 27 = .ok (.aload_n 0, 1) := by decide +kernel
theorem dX9_radius_28 : decode cX9_radius 28 = .ok (.getfield 10, 3) := by decide +kernel
theorem dX9_radius_31 : decode cX9_radius 31 = .ok (.invokevirtual 65, 3) := by decide +kernel
theorem dX9_radius_34 : decode cX9_radius 34 = .ok (.aload_n 0, 1) := by decide +kernel
theorem dX9_radius_35 : decode cX9_radius 35 = .ok (.getfield 10, 3) := by decide +kernel
theorem dX9_radius_38 : decode cX9_radius 38 = .ok (.getfield 79, 3) := by decide +kernel
theorem dX9_radius_41 : decode cX9_radius 41 = .ok (.istore_n 2, 1) := by decide +kernel
theorem dX9_radius_42 : decode cX9_radius 42 = .ok (.aload_n 0, 1) := by decide +kernel
theorem dX9_radius_43 : decode cX9_radius 43 = .ok (.getfield 10, 3) := by decide +kernel
theorem dX9_radius_46 : decode cX9_radius 46 = .ok (.iload_n 1, 1) := by decide +kernel
theorem dX9_radius_47 : decode cX9_radius 47 = .ok (.putfield 79, 3) := by decide +kernel
theorem dX9_radius_50 : decode cX9_radius 50 = .ok (.iload_n 2, 1) := by decide +kernel
theorem dX9_radius_51 : decode cX9_radius 51 = .ok (.ireturn, 1) := by decide +kernel
theorem dX9_block_0 : decode cX9_block 0 = .ok (.aload_n 0, 1) := by decide +kernel
theorem dX9_block_1 : decode cX9_block 1 = .ok (.iload_n 1, 1) := by decide +kernel
theorem dX9_block_2 : decode cX9_block 2 = .ok (.invokevirtual 82, 3) := by decide +kernel
theorem dX9_block_5 : decode cX9_block 5 = .ok (.ifCond .eq 13, 3) := by decide +kernel
theorem dX9_block_8 : decode cX9_block 8 = .ok (.new 85, 3) := by decide +kernel
theorem dX9_block_11 : decode cX9_block 11 = .ok (.dup, 1) := by decide +kernel
theorem dX9_block_12 : decode cX9_block 12 = .ok (.ldc 87, 2) := by decide +kernel
theorem dX9_block_14 : decode cX9_block 14 = .ok (.invokespecial 89, 3) := by decide +kernel
theorem dX9_block_17 : decode cX9_block 17 = .ok (.athrow, 1) := by decide +kernel
theorem dX9_block_18 : decode cX9_block 18 = .ok (.iload_n 2, 1) := by decide +kernel
theorem dX9_block_19 : decode cX9_block 19 = .ok (.ifCond .lt 9, 3) := by decide +kernel
theorem dX9_block_22 : decode cX9_block 22 = .ok (.iload_n 2, 1) := by decide +kernel
theorem dX9_block_23 : decode cX9_block 23 = .ok (.bipush 100, 2) := by decide +kernel
theorem dX9_block_25 : decode cX9_block 25 = .ok (.if_icmp .le 13, 3) := by decide +kernel
theorem dX9_block_28 : decode cX9_block 28 = .ok (.new 58, 3) := by decide +kernel
theorem dX9_block_31 : decode cX9_block 31 = .ok (.dup, 1) := by decide +kernel
theorem dX9_block_32 : decode cX9_block 32 = .ok (.ldc 90, 2) := by decide +kernel
theorem dX9_block_34 : decode cX9_block 34 = .ok (.invokespecial 62, 3) := by decide +kernel
theorem dX9_block_37 : decode cX9_block 37 = .ok (.athrow, 1) := by decide +kernel
theorem dX9_block_38 : decode cX9_block 38 = .ok (.aload_n 0, 1) := by decide +kernel
theorem dX9_block_39 : decode cX9_block 39 = .ok (.getfield 19, 3) := by decide +kernel
theorem dX9_block_42 : decode cX9_block 42 = .ok (.aload_n 0, 1) := by decide +kernel
theorem dX9_block_43 : decode cX9_block 43 = .ok (.getfield 10, 3) := by decide +kernel
theorem dX9_block_46 : decode cX9_block 46 = .ok (.invokevirtual 65, 3) := by decide +kernel
theorem dX9_block_49 : decode cX9_block 49 = .ok (.aload_n 0, 1) := by decide +kernel
theorem dX9_block_50 : decode cX9_block 50 = .ok (.getfield 10, 3) := by decide +kernel
theorem dX9_block_53 : decode cX9_block 53 = .ok (.getfield 92, 3) := by decide +kernel
theorem dX9_block_56 : decode cX9_block 56 = .ok (.iload_n 1, 1) := by decide +kernel
theorem dX9_block_57 : decode cX9_block 57 = .ok (.invokestatic 95, 3) := by decide +kernel
theorem dX9_block_60 : decode cX9_block 60 = .ok (.istore_n 3, 1) := by decide +kernel
theorem dX9_block_61 : decode cX9_block 61 = .ok (.aload_n 0, 1) := by decide +kernel
theorem dX9_block_62 : decode cX9_block 62 = .ok (.getfield 10, 3) := by decide +kernel
theorem dX9_block_65 : decode cX9_block 65 = .ok (.getfield 92, 3) := by decide +kernel
theorem dX9_block_68 : decode cX9_block 68 = .ok (.iload_n 1, 1) := by decide +kernel
theorem dX9_block_69 : decode cX9_block 69 = .ok (.iload_n 2, 1) := by decide +kernel
theorem dX9_block_70 : decode cX9_block 70 = .ok (.invokestatic 101, 3) := by decide +kernel
theorem dX9_block_73 : decode cX9_block 73 = .ok (.iload_n 3, 1) := by decide +kernel
theorem dX9_block_74 : decode cX9_block 74 = .ok (.ireturn, 1) := by decide +kernel
theorem dX9_leak_0 : decode cX9_leak 0 = .ok (.aload_n 0, 1) := by decide +kernel
theorem dX9_leak_1 : decode cX9_leak 1 = .ok (.iload_n 1, 1) := by decide +kernel
theorem dX9_leak_2 : decode cX9_leak 2 = .ok (.invokevirtual 82, 3) := by decide +kernel
theorem dX9_leak_5 : decode cX9_leak 5 = .ok (.ifCond .eq 13, 3) := by decide +kernel
theorem dX9_leak_8 : decode cX9_leak 8 = .ok (.new 85, 3) := by decide +kernel
theorem dX9_leak_11 : decode cX9_leak 11 = .ok (.dup, 1) := by decide +kernel
theorem dX9_leak_12 : decode cX9_leak 12 = .ok (.ldc 87, 2) := by decide +kernel
theorem dX9_leak_14 : decode cX9_leak 14 = .ok (.invokespecial 89, 3) := by decide +kernel
theorem dX9_leak_17 : decode cX9_leak 17 = .ok (.athrow, 1) := by decide +kernel
theorem dX9_leak_18 : decode cX9_leak 18 = .ok (.iload_n 2, 1) := by decide +kernel
theorem dX9_leak_19 : decode cX9_leak 19 = .ok (.ifCond .lt 9, 3) := by decide +kernel
theorem dX9_leak_22 : decode cX9_leak 22 = .ok (.iload_n 2, 1) := by decide +kernel
theorem dX9_leak_23 : decode cX9_leak 23 = .ok (.bipush 100, 2) := by decide +kernel
theorem dX9_leak_25 : decode cX9_leak 25 = .ok (.if_icmp .le 13, 3) := by decide +kernel
theorem dX9_leak_28 : decode cX9_leak 28 = .ok (.new 58, 3) := by decide +kernel
theorem dX9_leak_31 : decode cX9_leak 31 = .ok (.dup, 1) := by decide +kernel
theorem dX9_leak_32 : decode cX9_leak 32 = .ok (.ldc 105, 2) := by decide +kernel
theorem dX9_leak_34 : decode cX9_leak 34 = .ok (.invokespecial 62, 3) := by decide +kernel
theorem dX9_leak_37 : decode cX9_leak 37 = .ok (.athrow, 1) := by decide +kernel
theorem dX9_leak_38 : decode cX9_leak 38 = .ok (.aload_n 0, 1) := by decide +kernel
theorem dX9_leak_39 : decode cX9_leak 39 = .ok (.getfield 19, 3) := by decide +kernel
theorem dX9_leak_42 : decode cX9_leak 42 = .ok (.aload_n 0, 1) := by decide +kernel
theorem dX9_leak_43 : decode cX9_leak 43 = .ok (.getfield 10, 3) := by decide +kernel
theorem dX9_leak_46 : decode cX9_leak 46 = .ok (.invokevirtual 65, 3) := by decide +kernel
theorem dX9_leak_49 : decode cX9_leak 49 = .ok (.aload_n 0, 1) := by decide +kernel
theorem dX9_leak_50 : decode cX9_leak 50 = .ok (.getfield 10, 3) := by decide +kernel
theorem dX9_leak_53 : decode cX9_leak 53 = .ok (.getfield 107, 3) := by decide +kernel
theorem dX9_leak_56 : decode cX9_leak 56 = .ok (.iload_n 1, 1) := by decide +kernel
theorem dX9_leak_57 : decode cX9_leak 57 = .ok (.invokestatic 95, 3) := by decide +kernel
theorem dX9_leak_60 : decode cX9_leak 60 = .ok (.istore_n 3, 1) := by decide +kernel
theorem dX9_leak_61 : decode cX9_leak 61 = .ok (.aload_n 0, 1) := by decide +kernel
theorem dX9_leak_62 : decode cX9_leak 62 = .ok (.getfield 10, 3) := by decide +kernel
theorem dX9_leak_65 : decode cX9_leak 65 = .ok (.getfield 107, 3) := by decide +kernel
theorem dX9_leak_68 : decode cX9_leak 68 = .ok (.iload_n 1, 1) := by decide +kernel
theorem dX9_leak_69 : decode cX9_leak 69 = .ok (.iload_n 2, 1) := by decide +kernel
theorem dX9_leak_70 : decode cX9_leak 70 = .ok (.invokestatic 101, 3) := by decide +kernel
theorem dX9_leak_73 : decode cX9_leak 73 = .ok (.iload_n 3, 1) := by decide +kernel
theorem dX9_leak_74 : decode cX9_leak 74 = .ok (.ireturn, 1) := by decide +kernel
theorem dX9_clean_0 : decode cX9_clean 0 = .ok (.aload_n 0, 1) := by decide +kernel
theorem dX9_clean_1 : decode cX9_clean 1 = .ok (.iload_n 1, 1) := by decide +kernel
theorem dX9_clean_2 : decode cX9_clean 2 = .ok (.invokevirtual 82, 3) := by decide +kernel
theorem dX9_clean_5 : decode cX9_clean 5 = .ok (.ifCond .eq 13, 3) := by decide +kernel
theorem dX9_clean_8 : decode cX9_clean 8 = .ok (.new 85, 3) := by decide +kernel
theorem dX9_clean_11 : decode cX9_clean 11 = .ok (.dup, 1) := by decide +kernel
theorem dX9_clean_12 : decode cX9_clean 12 = .ok (.ldc 87, 2) := by decide +kernel
theorem dX9_clean_14 : decode cX9_clean 14 = .ok (.invokespecial 89, 3) := by decide +kernel
theorem dX9_clean_17 : decode cX9_clean 17 = .ok (.athrow, 1) := by decide +kernel
theorem dX9_clean_18 : decode cX9_clean 18 = .ok (.aload_n 0, 1) := by decide +kernel
theorem dX9_clean_19 : decode cX9_clean 19 = .ok (.getfield 19, 3) := by decide +kernel
theorem dX9_clean_22 : decode cX9_clean 22 = .ok (.aload_n 0, 1) := by decide +kernel
theorem dX9_clean_23 : decode cX9_clean 23 = .ok (.getfield 10, 3) := by decide +kernel
theorem dX9_clean_26 : decode cX9_clean 26 = .ok (.invokevirtual 65, 3) := by decide +kernel
theorem dX9_clean_29 : decode cX9_clean 29 = .ok (.aload_n 0, 1) := by decide +kernel
theorem dX9_clean_30 : decode cX9_clean 30 = .ok (.getfield 10, 3) := by decide +kernel
theorem dX9_clean_33 : decode cX9_clean 33 = .ok (.iload_n 1, 1) := by decide +kernel
theorem dX9_clean_34 : decode cX9_clean 34 = .ok (.invokevirtual 110, 3) := by decide +kernel
theorem dX9_clean_37 : decode cX9_clean 37 = .ok (.istore_n 2, 1) := by decide +kernel
theorem dX9_clean_38 : decode cX9_clean 38 = .ok (.aload_n 0, 1) := by decide +kernel
theorem dX9_clean_39 : decode cX9_clean 39 = .ok (.getfield 10, 3) := by decide +kernel
theorem dX9_clean_42 : decode cX9_clean 42 = .ok (.iload_n 1, 1) := by decide +kernel
theorem dX9_clean_43 : decode cX9_clean 43 = .ok (.invokevirtual 114, 3) := by decide +kernel
theorem dX9_clean_46 : decode cX9_clean 46 = .ok (.aload_n 0, 1) := by decide +kernel
theorem dX9_clean_47 : decode cX9_clean 47 = .ok (.getfield 10, 3) := by decide +kernel
theorem dX9_clean_50 : decode cX9_clean 50 = .ok (.iload_n 1, 1) := by decide +kernel
theorem dX9_clean_51 : decode cX9_clean 51 = .ok (.iload_n 2, 1) := by decide +kernel
theorem dX9_clean_52 : decode cX9_clean 52 = .ok (.invokevirtual 117, 3) := by decide +kernel
theorem dX9_clean_55 : decode cX9_clean 55 = .ok (.iload_n 2, 1) := by decide +kernel
theorem dX9_clean_56 : decode cX9_clean 56 = .ok (.ireturn, 1) := by decide +kernel
theorem dX9_test_0 : decode cX9_test 0 = .ok (.aload_n 0, 1) := by decide +kernel
theorem dX9_test_1 : decode cX9_test 1 = .ok (.iload_n 1, 1) := by decide +kernel
theorem dX9_test_2 : decode cX9_test 2 = .ok (.invokevirtual 82, 3) := by decide +kernel
theorem dX9_test_5 : decode cX9_test 5 = .ok (.ifCond .eq 13, 3) := by decide +kernel
theorem dX9_test_8 : decode cX9_test 8 = .ok (.new 85, 3) := by decide +kernel
theorem dX9_test_11 : decode cX9_test 11 = .ok (.dup, 1) := by decide +kernel
theorem dX9_test_12 : decode cX9_test 12 = .ok (.ldc 87, 2) := by decide +kernel
theorem dX9_test_14 : decode cX9_test 14 = .ok (.invokespecial 89, 3) := by decide +kernel
theorem dX9_test_17 : decode cX9_test 17 = .ok (.athrow, 1) := by decide +kernel
theorem dX9_test_18 : decode cX9_test 18 = .ok (.aload_n 0, 1) := by decide +kernel
theorem dX9_test_19 : decode cX9_test 19 = .ok (.getfield 19, 3) := by decide +kernel
theorem dX9_test_22 : decode cX9_test 22 = .ok (.aload_n 0, 1) := by decide +kernel
theorem dX9_test_23 : decode cX9_test 23 = .ok (.getfield 10, 3) := by decide +kernel
theorem dX9_test_26 : decode cX9_test 26 = .ok (.invokevirtual 65, 3) := by decide +kernel
theorem dX9_test_29 : decode cX9_test 29 = .ok (.aload_n 0, 1) := by decide +kernel
theorem dX9_test_30 : decode cX9_test 30 = .ok (.getfield 10, 3) := by decide +kernel
theorem dX9_test_33 : decode cX9_test 33 = .ok (.getfield 107, 3) := by decide +kernel
theorem dX9_test_36 : decode cX9_test 36 = .ok (.iload_n 1, 1) := by decide +kernel
theorem dX9_test_37 : decode cX9_test 37 = .ok (.invokestatic 95, 3) := by decide +kernel
theorem dX9_test_40 : decode cX9_test 40 = .ok (.aload_n 0, 1) := by decide +kernel
theorem dX9_test_41 : decode cX9_test 41 = .ok (.getfield 10, 3) := by decide +kernel
theorem dX9_test_44 : decode cX9_test 44 = .ok (.getfield 121, 3) := by decide +kernel
theorem dX9_test_47 : decode cX9_test 47 = .ok (.iconst 4, 1) := by decide +kernel
theorem dX9_test_48 : decode cX9_test 48 = .ok (.invokestatic 95, 3) := by decide +kernel
theorem dX9_test_51 : decode cX9_test 51 = .ok (.if_icmp .le 7, 3) := by decide +kernel
theorem dX9_test_54 : decode cX9_test 54 = .ok (.iconst 1, 1) := by decide +kernel
theorem dX9_test_55 : decode cX9_test 55 = .ok (.goto 4, 3) := by decide +kernel
theorem dX9_test_58 : decode cX9_test 58 = .ok (.iconst 0, 1) := by decide +kernel
theorem dX9_test_59 : decode cX9_test 59 = .ok (.istore_n 2, 1) := by decide +kernel
theorem dX9_test_60 : decode cX9_test 60 = .ok (.iload_n 2, 1) := by decide +kernel
theorem dX9_test_61 : decode cX9_test 61 = .ok (.ifCond .eq 7, 3) := by decide +kernel
theorem dX9_test_64 : decode cX9_test 64 = .ok (.iconst 2, 1) := by decide +kernel
theorem dX9_test_65 : decode cX9_test 65 = .ok (.goto 4, 3) := by decide +kernel
theorem dX9_test_68 : decode cX9_test 68 = .ok (.iconst 1, 1) := by decide +kernel
theorem dX9_test_69 : decode cX9_test 69 = .ok (.istore_n 3, 1) := by decide +kernel
theorem dX9_test_70 : decode cX9_test 70 = .ok (.aload_n 0, 1) := by decide +kernel
theorem dX9_test_71 : decode cX9_test 71 = .ok (.getfield 10, 3) := by decide +kernel
theorem dX9_test_74 : decode cX9_test 74 = .ok (.getfield 124, 3) := by decide +kernel
theorem dX9_test_77 : decode cX9_test 77 = .ok (.iload_n 1, 1) := by decide +kernel
theorem dX9_test_78 : decode cX9_test 78 = .ok (.iload_n 3, 1) := by decide +kernel
theorem dX9_test_79 : decode cX9_test 79 = .ok (.invokestatic 101, 3) := by decide +kernel
theorem dX9_test_82 : decode cX9_test 82 = .ok (.aload_n 0, 1) := by decide +kernel
theorem dX9_test_83 : decode cX9_test 83 = .ok (.getfield 10, 3) := by decide +kernel
theorem dX9_test_86 : decode cX9_test 86 = .ok (.iload_n 1, 1) := by decide +kernel
theorem dX9_test_87 : decode cX9_test 87 = .ok (.iconst 3, 1) := by decide +kernel
theorem dX9_test_88 : decode cX9_test 88 = .ok (.invokevirtual 117, 3) := by decide +kernel
theorem dX9_test_91 : decode cX9_test 91 = .ok (.iload_n 3, 1) := by decide +kernel
theorem dX9_test_92 : decode cX9_test 92 = .ok (.ireturn, 1) := by decide +kernel
theorem dX9_read_0 : decode cX9_read 0 = .ok (.aload_n 0, 1) := by decide +kernel
theorem dX9_read_1 : decode cX9_read 1 = .ok (.getfield 19, 3) := by decide +kernel
theorem dX9_read_4 : decode cX9_read 4 = .ok (.aload_n 0, 1) := by decide +kernel
theorem dX9_read_5 : decode cX9_read 5 = .ok (.getfield 10, 3) := by decide +kernel
theorem dX9_read_8 : decode cX9_read 8 = .ok (.invokevirtual 65, 3) := by decide +kernel
theorem dX9_read_11 : decode cX9_read 11 = .ok (.iconst 0, 1) := by decide +kernel
theorem dX9_read_12 : decode cX9_read 12 = .ok (.istore_n 1, 1) := by decide +kernel
theorem dX9_read_13 : decode cX9_read 13 = .ok (.iload_n 1, 1) := by decide +kernel
theorem dX9_read_14 : decode cX9_read 14 = .ok (.aload_n 0, 1) := by decide +kernel
theorem dX9_read_15 : decode cX9_read 15 = .ok (.getfield 10, 3) := by decide +kernel
theorem dX9_read_18 : decode cX9_read 18 = .ok (.getfield 69, 3) := by decide +kernel
theorem dX9_read_21 : decode cX9_read 21 = .ok (.if_icmp .ge 33, 3) := by decide +kernel
theorem dX9_read_24 : decode cX9_read 24 = .ok (.aload_n 0, 1) := by decide +kernel
theorem dX9_read_25 : decode cX9_read 25 = .ok (.getfield 50, 3) := by decide +kernel
theorem dX9_read_28 : decode cX9_read 28 = .ok (.iload_n 1, 1) := by decide +kernel
theorem dX9_read_29 : decode cX9_read 29 = .ok (.aload_n 0, 1) := by decide +kernel
theorem dX9_read_30 : decode cX9_read 30 = .ok (.getfield 10, 3) := by decide +kernel
theorem dX9_read_33 : decode cX9_read 33 = .ok (.iload_n 1, 1) := by decide +kernel
theorem dX9_read_34 : decode cX9_read 34 = .ok (.aload_n 0, 1) := by decide +kernel
theorem dX9_read_35 : decode cX9_read 35 = .ok (.getfield 10, 3) := by decide +kernel
theorem dX9_read_38 : decode cX9_read 38 = .ok (.iload_n 1, 1) := by decide +kernel
theorem dX9_read_39 : decode cX9_read 39 = .ok (.invokestatic 127, 3) := by decide +kernel
theorem dX9_read_42 : decode cX9_read 42 = .ok (.invokestatic 133, 3) := by decide +kernel
theorem dX9_read_45 : decode cX9_read 45 = .ok (.invokestatic 101, 3) := by decide +kernel
theorem dX9_read_48 : decode cX9_read 48 = .ok (.iinc 1 1, 3) := by decide +kernel
theorem dX9_read_51 : decode cX9_read 51 = .ok (.goto (-38), 3) := by decide +kernel
theorem dX9_read_54 : decode cX9_read 54 = .ok (.aload_n 0, 1) := by decide +kernel
theorem dX9_read_55 : decode cX9_read 55 = .ok (.getfield 10, 3) := by decide +kernel
theorem dX9_read_58 : decode cX9_read 58 = .ok (.aload_n 0, 1) := by decide +kernel
theorem dX9_read_59 : decode cX9_read 59 = .ok (.getfield 50, 3) := by decide +kernel
theorem dX9_read_62 : decode cX9_read 62 = .ok (.aload_n 0, 1) := by decide +kernel
theorem dX9_read_63 : decode cX9_read 63 = .ok (.getfield 10, 3) := by decide +kernel
theorem dX9_read_66 : decode cX9_read 66 = .ok (.getfield 69, 3) := by decide +kernel
theorem dX9_read_69 : decode cX9_read 69 = .ok (.invokevirtual 137, 3) := by decide +kernel
theorem dX9_read_72 : decode cX9_read 72 = .ok (.aload_n 0, 1) := by decide +kernel
theorem dX9_read_73 : decode cX9_read 73 = .ok (.getfield 10, 3) := by decide +kernel
theorem dX9_read_76 : decode cX9_read 76 = .ok (.getfield 141, 3) := by decide +kernel
theorem dX9_read_79 : decode cX9_read 79 = .ok (.getfield 145, 3) := by decide +kernel
theorem dX9_read_82 : decode cX9_read 82 = .ok (.ireturn, 1) := by decide +kernel
theorem dX9_drop_0 : decode cX9_drop 0 = .ok (.aload_n 0, 1) := by decide +kernel
theorem dX9_drop_1 : decode cX9_drop 1 = .ok (.iload_n 1, 1) := by decide +kernel
theorem dX9_drop_2 : decode cX9_drop 2 = .ok (.invokevirtual 150, 3) := by decide +kernel
theorem dX9_drop_5 : decode cX9_drop 5 = .ok (.ifCond .eq 13, 3) := by decide +kernel
theorem dX9_drop_8 : decode cX9_drop 8 = .ok (.new 85, 3) := by decide +kernel
theorem dX9_drop_11 : decode cX9_drop 11 = .ok (.dup, 1) := by decide +kernel
theorem dX9_drop_12 : decode cX9_drop 12 = .ok (.ldc 153, 2) := by decide +kernel
theorem dX9_drop_14 : decode cX9_drop 14 = .ok (.invokespecial 89, 3) := by decide +kernel
theorem dX9_drop_17 : decode cX9_drop 17 = .ok (.athrow, 1) := by decide +kernel
theorem dX9_drop_18 : decode cX9_drop 18 = .ok (.aload_n 0, 1) := by decide +kernel
theorem dX9_drop_19 : decode cX9_drop 19 = .ok (.getfield 19, 3) := by decide +kernel
theorem dX9_drop_22 : decode cX9_drop 22 = .ok (.aload_n 0, 1) := by decide +kernel
theorem dX9_drop_23 : decode cX9_drop 23 = .ok (.getfield 10, 3) := by decide +kernel
theorem dX9_drop_26 : decode cX9_drop 26 = .ok (.invokevirtual 65, 3) := by decide +kernel
theorem dX9_drop_29 : decode cX9_drop 29 = .ok (.aload_n 0, 1) := by decide +kernel
theorem dX9_drop_30 : decode cX9_drop 30 = .ok (.getfield 10, 3) := by decide +kernel
theorem dX9_drop_33 : decode cX9_drop 33 = .ok (.getfield 141, 3) := by decide +kernel
theorem dX9_drop_36 : decode cX9_drop 36 = .ok (.iload_n 1, 1) := by decide +kernel
theorem dX9_drop_37 : decode cX9_drop 37 = .ok (.invokevirtual 155, 3) := by decide +kernel
theorem dX9_drop_40 : decode cX9_drop 40 = .ok (.aload_n 0, 1) := by decide +kernel
theorem dX9_drop_41 : decode cX9_drop 41 = .ok (.getfield 10, 3) := by decide +kernel
theorem dX9_drop_44 : decode cX9_drop 44 = .ok (.getfield 141, 3) := by decide +kernel
theorem dX9_drop_47 : decode cX9_drop 47 = .ok (.getfield 145, 3) := by decide +kernel
theorem dX9_drop_50 : decode cX9_drop 50 = .ok (.ireturn, 1) := by decide +kernel
theorem dX9_set_0 : decode cX9_set 0 = .ok (.iload_n 1, 1) := by decide +kernel
theorem dX9_set_1 : decode cX9_set 1 = .ok (.invokestatic 158, 3) := by decide +kernel
theorem dX9_set_4 : decode cX9_set 4 = .ok (.ifCond .eq 13, 3) := by decide +kernel
theorem dX9_set_7 : decode cX9_set 7 = .ok (.new 85, 3) := by decide +kernel
theorem dX9_set_10 : decode cX9_set 10 = .ok (.dup, 1) := by decide +kernel
theorem dX9_set_11 : decode cX9_set 11 = .ok (.ldc 161, 2) := by decide +kernel
theorem dX9_set_13 : decode cX9_set 13 = .ok (.invokespecial 89, 3) := by decide +kernel
theorem dX9_set_16 : decode cX9_set 16 = .ok (.athrow, 1) := by decide +kernel
theorem dX9_set_17 : decode cX9_set 17 = .ok (.iload_n 2, 1) := by decide +kernel
theorem dX9_set_18 : decode cX9_set 18 = .ok (.ifCond .lt 14, 3) := by decide +kernel
theorem dX9_set_21 : decode cX9_set 21 = .ok (.iload_n 2, 1) := by decide +kernel
theorem dX9_set_22 : decode cX9_set 22 = .ok (.getstatic 163, 3) := by decide +kernel
theorem dX9_set_25 : decode cX9_set 25 = .ok (.iload_n 1, 1) := by decide +kernel
theorem dX9_set_26 : decode cX9_set 26 = .ok (.invokestatic 95, 3) := by decide +kernel
theorem dX9_set_29 : decode cX9_set 29 = .ok (.if_icmp .le 13, 3) := by decide +kernel
theorem dX9_set_32 : decode cX9_set 32 = .ok (.new 58, 3) := by decide +kernel
theorem dX9_set_35 : decode cX9_set 35 = .ok (.dup, 1) := by decide +kernel
theorem dX9_set_36 : decode cX9_set 36 = .ok (.ldc 166, 2) := by decide +kernel
theorem dX9_set_38 : decode cX9_set 38 = .ok (.invokespecial 62, 3) := by decide +kernel
theorem dX9_set_41 : decode cX9_set 41 = .ok (.athrow, 1) := by decide +kernel
theorem dX9_set_42 : decode cX9_set 42 = .ok (.aload_n 0, 1) := by decide +kernel
theorem dX9_set_43 : decode cX9_set 43 = .ok (.getfield 19, 3) := by decide +kernel
theorem dX9_set_46 : decode cX9_set 46 = .ok (.aload_n 0, 1) := by decide +kernel
theorem dX9_set_47 : decode cX9_set 47 = .ok (.getfield 10, 3) := by decide +kernel
theorem dX9_set_50 : decode cX9_set 50 = .ok (.invokevirtual 65, 3) := by decide +kernel
theorem dX9_set_53 : decode cX9_set 53 = .ok (.aload_n 0, 1) := by decide +kernel
theorem dX9_set_54 : decode cX9_set 54 = .ok (.getfield 10, 3) := by decide +kernel
theorem dX9_set_57 : decode cX9_set 57 = .ok (.getfield 121, 3) := by decide +kernel
theorem dX9_set_60 : decode cX9_set 60 = .ok (.iload_n 1, 1) := by decide +kernel
theorem dX9_set_61 : decode cX9_set 61 = .ok (.invokestatic 95, 3) := by decide +kernel
theorem dX9_set_64 : decode cX9_set 64 = .ok (.istore_n 3, 1) := by decide +kernel
theorem dX9_set_65 : decode cX9_set 65 = .ok (.aload_n 0, 1) := by decide +kernel
theorem dX9_set_66 : decode cX9_set 66 = .ok (.getfield 10, 3) := by decide +kernel
theorem dX9_set_69 : decode cX9_set 69 = .ok (.getfield 121, 3) := by decide +kernel
theorem dX9_set_72 : decode cX9_set 72 = .ok (.iload_n 1, 1) := by decide +kernel
theorem dX9_set_73 : decode cX9_set 73 = .ok (.iload_n 2, 1) := by decide +kernel
theorem dX9_set_74 : decode cX9_set 74 = .ok (.invokestatic 101, 3) := by decide +kernel
theorem dX9_set_77 : decode cX9_set 77 = .ok (.iload_n 3, 1) := by decide +kernel
theorem dX9_set_78 : decode cX9_set 78 = .ok (.ireturn, 1) := by decide +kernel
theorem dX9_append_0 : decode cX9_append 0 = .ok (.iload_n 1, 1) := by decide +kernel
theorem dX9_append_1 : decode cX9_append 1 = .ok (.bipush 33, 2) := by decide +kernel
theorem dX9_append_3 : decode cX9_append 3 = .ok (.if_icmp .lt 9, 3) := by decide +kernel
theorem dX9_append_6 : decode cX9_append 6 = .ok (.iload_n 1, 1) := by decide +kernel
theorem dX9_append_7 : decode cX9_append 7 = .ok (.bipush 126, 2) := by decide +kernel
theorem dX9_append_9 : decode cX9_append 9 = .ok (.if_icmp .le 13, 3) := by decide +kernel
theorem dX9_append_12 : decode cX9_append 12 = .ok (.new 58, 3) := by decide +kernel
theorem dX9_append_15 : decode cX9_append 15 = .ok (.dup, 1) := by decide +kernel
theorem dX9_append_16 : decode cX9_append 16 = .ok (.ldc 168, 2) := by decide +kernel
theorem dX9_append_18 : decode cX9_append 18 = .ok (.invokespecial 62, 3) := by decide +kernel
theorem dX9_append_21 : decode cX9_append 21 = .ok (.athrow, 1) := by decide +kernel
