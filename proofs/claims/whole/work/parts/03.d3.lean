theorem dX10_laysTold_69 : decode cX10_laysTold 69 = .ok (.iload_n 3, 1) := by decide +kernel
theorem dX10_laysTold_70 : decode cX10_laysTold 70 = .ok (.iconst 2, 1) := by decide +kernel
theorem dX10_laysTold_71 : decode cX10_laysTold 71 = .ok (.invokevirtual 71, 3) := by decide +kernel
theorem dX10_laysTold_74 : decode cX10_laysTold 74 = .ok (.iconst 2, 1) := by decide +kernel
theorem dX10_laysTold_75 : decode cX10_laysTold 75 = .ok (.if_icmp .ne 12, 3) := by decide +kernel
theorem dX10_laysTold_78 : decode cX10_laysTold 78 = .ok (.iload_n 3, 1) := by decide +kernel
theorem dX10_laysTold_79 : decode cX10_laysTold 79 = .ok (.iload_n 1, 1) := by decide +kernel
theorem dX10_laysTold_80 : decode cX10_laysTold 80 = .ok (.if_icmp .eq 7, 3) := by decide +kernel
theorem dX10_laysTold_83 : decode cX10_laysTold 83 = .ok (.iconst 1, 1) := by decide +kernel
theorem dX10_laysTold_84 : decode cX10_laysTold 84 = .ok (.goto 4, 3) := by decide +kernel
theorem dX10_laysTold_87 : decode cX10_laysTold 87 = .ok (.iconst 0, 1) := by decide +kernel
theorem dX10_laysTold_88 : decode cX10_laysTold 88 = .ok (.invokevirtual 96, 3) := by decide +kernel
theorem dX10_laysTold_91 : decode cX10_laysTold 91 = .ok (.iastore, 1) := by decide +kernel
theorem dX10_laysTold_92 : decode cX10_laysTold 92 = .ok (.aload_n 0, 1) := by decide +kernel
theorem dX10_laysTold_93 : decode cX10_laysTold 93 = .ok (.dup, 1) := by decide +kernel
theorem dX10_laysTold_94 : decode cX10_laysTold 94 = .ok (.getfield 93, 3) := by decide +kernel
theorem dX10_laysTold_97 : decode cX10_laysTold 97 = .ok (.aload_n 0, 1) := by decide +kernel
theorem dX10_laysTold_98 : decode cX10_laysTold 98 = .ok (.getfield 29, 3) := by decide +kernel
theorem dX10_laysTold_101 : decode cX10_laysTold 101 = .ok (.iload_n 3, 1) := by decide +kernel
theorem dX10_laysTold_102 : decode cX10_laysTold 102 = .ok (.iaload, 1) := by decide +kernel
theorem dX10_laysTold_103 : decode cX10_laysTold 103 = .ok (.ifCond .ne 7, 3) := by decide +kernel
theorem dX10_laysTold_106 : decode cX10_laysTold 106 = .ok (.iconst 1, 1) := by decide +kernel
theorem dX10_laysTold_107 : decode cX10_laysTold 107 = .ok (.goto 4, 3) := by decide +kernel
theorem dX10_laysTold_110 : decode cX10_laysTold 110 = .ok (.iconst 0, 1) := by decide +kernel
theorem dX10_laysTold_111 : decode cX10_laysTold 111 = .ok (.iadd, 1) := by decide +kernel
theorem dX10_laysTold_112 : decode cX10_laysTold 112 = .ok (.putfield 93, 3) := by decide +kernel
theorem dX10_laysTold_115 : decode cX10_laysTold 115 = .ok (.aload_n 0, 1) := by decide +kernel
theorem dX10_laysTold_116 : decode cX10_laysTold 116 = .ok (.getfield 32, 3) := by decide +kernel
theorem dX10_laysTold_119 : decode cX10_laysTold 119 = .ok (.iload_n 3, 1) := by decide +kernel
theorem dX10_laysTold_120 : decode cX10_laysTold 120 = .ok (.aload_n 0, 1) := by decide +kernel
theorem dX10_laysTold_121 : decode cX10_laysTold 121 = .ok (.getfield 29, 3) := by decide +kernel
theorem dX10_laysTold_124 : decode cX10_laysTold 124 = .ok (.iload_n 3, 1) := by decide +kernel
theorem dX10_laysTold_125 : decode cX10_laysTold 125 = .ok (.iaload, 1) := by decide +kernel
theorem dX10_laysTold_126 : decode cX10_laysTold 126 = .ok (.ifCond .ne 19, 3) := by decide +kernel
theorem dX10_laysTold_129 : decode cX10_laysTold 129 = .ok (.sipush 10000, 3) := by decide +kernel
theorem dX10_laysTold_132 : decode cX10_laysTold 132 = .ok (.aload_n 0, 1) := by decide +kernel
theorem dX10_laysTold_133 : decode cX10_laysTold 133 = .ok (.getfield 26, 3) := by decide +kernel
theorem dX10_laysTold_136 : decode cX10_laysTold 136 = .ok (.iload_n 3, 1) := by decide +kernel
theorem dX10_laysTold_137 : decode cX10_laysTold 137 = .ok (.iaload, 1) := by decide +kernel
theorem dX10_laysTold_138 : decode cX10_laysTold 138 = .ok (.imul, 1) := by decide +kernel
theorem dX10_laysTold_139 : decode cX10_laysTold 139 = .ok (.invokestatic 57, 3) := by decide +kernel
theorem dX10_laysTold_142 : decode cX10_laysTold 142 = .ok (.goto 4, 3) := by decide +kernel
theorem dX10_laysTold_145 : decode cX10_laysTold 145 = .ok (.iconst 0, 1) := by decide +kernel
theorem dX10_laysTold_146 : decode cX10_laysTold 146 = .ok (.iastore, 1) := by decide +kernel
theorem dX10_laysTold_147 : decode cX10_laysTold 147 = .ok (.iinc 3 1, 3) := by decide +kernel
theorem dX10_laysTold_150 : decode cX10_laysTold 150 = .ok (.goto (-101), 3) := by decide +kernel
theorem dX10_laysTold_153 : decode cX10_laysTold 153 = .ok (.iconst 0, 1) := by decide +kernel
theorem dX10_laysTold_154 : decode cX10_laysTold 154 = .ok (.istore_n 3, 1) := by decide +kernel
theorem dX10_laysTold_155 : decode cX10_laysTold 155 = .ok (.iload_n 3, 1) := by decide +kernel
theorem dX10_laysTold_156 : decode cX10_laysTold 156 = .ok (.aload_n 0, 1) := by decide +kernel
theorem dX10_laysTold_157 : decode cX10_laysTold 157 = .ok (.getfield 7, 3) := by decide +kernel
theorem dX10_laysTold_160 : decode cX10_laysTold 160 = .ok (.bipush 6, 2) := by decide +kernel
theorem dX10_laysTold_162 : decode cX10_laysTold 162 = .ok (.iaload, 1) := by decide +kernel
theorem dX10_laysTold_163 : decode cX10_laysTold 163 = .ok (.if_icmp .ge 45, 3) := by decide +kernel
theorem dX10_laysTold_166 : decode cX10_laysTold 166 = .ok (.aload_n 0, 1) := by decide +kernel
theorem dX10_laysTold_167 : decode cX10_laysTold 167 = .ok (.getfield 93, 3) := by decide +kernel
theorem dX10_laysTold_170 : decode cX10_laysTold 170 = .ok (.ifCond .le 38, 3) := by decide +kernel
theorem dX10_laysTold_173 : decode cX10_laysTold 173 = .ok (.aload_n 0, 1) := by decide +kernel
theorem dX10_laysTold_174 : decode cX10_laysTold 174 = .ok (.getfield 32, 3) := by decide +kernel
theorem dX10_laysTold_177 : decode cX10_laysTold 177 = .ok (.iload_n 3, 1) := by decide +kernel
theorem dX10_laysTold_178 : decode cX10_laysTold 178 = .ok (.aload_n 0, 1) := by decide +kernel
theorem dX10_laysTold_179 : decode cX10_laysTold 179 = .ok (.getfield 29, 3) := by decide +kernel
theorem dX10_laysTold_182 : decode cX10_laysTold 182 = .ok (.iload_n 3, 1) := by decide +kernel
theorem dX10_laysTold_183 : decode cX10_laysTold 183 = .ok (.iaload, 1) := by decide +kernel
theorem dX10_laysTold_184 : decode cX10_laysTold 184 = .ok (.ifCond .ne 12, 3) := by decide +kernel
theorem dX10_laysTold_187 : decode cX10_laysTold 187 = .ok (.aload_n 0, 1) := by decide +kernel
theorem dX10_laysTold_188 : decode cX10_laysTold 188 = .ok (.getfield 32, 3) := by decide +kernel
theorem dX10_laysTold_191 : decode cX10_laysTold 191 = .ok (.iload_n 3, 1) := by decide +kernel
theorem dX10_laysTold_192 : decode cX10_laysTold 192 = .ok (.iaload, 1) := by decide +kernel
theorem dX10_laysTold_193 : decode cX10_laysTold 193 = .ok (.goto 8, 3) := by decide +kernel
theorem dX10_laysTold_196 : decode cX10_laysTold 196 = .ok (.aload_n 0, 1) := by decide +kernel
theorem dX10_laysTold_197 : decode cX10_laysTold 197 = .ok (.iload_n 3, 1) := by decide +kernel
theorem dX10_laysTold_198 : decode cX10_laysTold 198 = .ok (.invokevirtual 100, 3) := by decide +kernel
theorem dX10_laysTold_201 : decode cX10_laysTold 201 = .ok (.iastore, 1) := by decide +kernel
theorem dX10_laysTold_202 : decode cX10_laysTold 202 = .ok (.iinc 3 1, 3) := by decide +kernel
theorem dX10_laysTold_205 : decode cX10_laysTold 205 = .ok (.goto (-50), 3) := by decide +kernel
theorem dX10_laysTold_208 : decode cX10_laysTold 208 = .ok (.return_, 1) := by decide +kernel
theorem dX10_laysAll_0 : decode cX10_laysAll 0 = .ok (.aload_n 0, 1) := by decide +kernel
theorem dX10_laysAll_1 : decode cX10_laysAll 1 = .ok (.invokevirtual 103, 3) := by decide +kernel
theorem dX10_laysAll_4 : decode cX10_laysAll 4 = .ok (.aload_n 0, 1) := by decide +kernel
theorem dX10_laysAll_5 : decode cX10_laysAll 5 = .ok (.iconst (-1), 1) := by decide +kernel
theorem dX10_laysAll_6 : decode cX10_laysAll 6 = .ok (.invokevirtual 106, 3) := by decide +kernel
theorem dX10_laysAll_9 : decode cX10_laysAll 9 = .ok (.return_, 1) := by decide +kernel
theorem dX10_flowOf_0 : decode cX10_flowOf 0 = .ok (.iconst 0, 1) := by decide +kernel
theorem dX10_flowOf_1 : decode cX10_flowOf 1 = .ok (.istore_n 3, 1) := by decide +kernel
theorem dX10_flowOf_2 : decode cX10_flowOf 2 = .ok (.iload_n 1, 1) := by decide +kernel
theorem dX10_flowOf_3 : decode cX10_flowOf 3 = .ok (.istore 4, 2) := by decide +kernel
theorem dX10_flowOf_5 : decode cX10_flowOf 5 = .ok (.iload 4, 2) := by decide +kernel
theorem dX10_flowOf_7 : decode cX10_flowOf 7 = .ok (.iload_n 2, 1) := by decide +kernel
theorem dX10_flowOf_8 : decode cX10_flowOf 8 = .ok (.if_icmp .ge 30, 3) := by decide +kernel
theorem dX10_flowOf_11 : decode cX10_flowOf 11 = .ok (.iload_n 3, 1) := by decide +kernel
theorem dX10_flowOf_12 : decode cX10_flowOf 12 = .ok (.aload_n 0, 1) := by decide +kernel
theorem dX10_flowOf_13 : decode cX10_flowOf 13 = .ok (.aload_n 0, 1) := by decide +kernel
theorem dX10_flowOf_14 : decode cX10_flowOf 14 = .ok (.getfield 32, 3) := by decide +kernel
theorem dX10_flowOf_17 : decode cX10_flowOf 17 = .ok (.iload 4, 2) := by decide +kernel
theorem dX10_flowOf_19 : decode cX10_flowOf 19 = .ok (.iaload, 1) := by decide +kernel
theorem dX10_flowOf_20 : decode cX10_flowOf 20 = .ok (.aload_n 0, 1) := by decide +kernel
theorem dX10_flowOf_21 : decode cX10_flowOf 21 = .ok (.getfield 7, 3) := by decide +kernel
theorem dX10_flowOf_24 : decode cX10_flowOf 24 = .ok (.bipush 6, 2) := by decide +kernel
theorem dX10_flowOf_26 : decode cX10_flowOf 26 = .ok (.iaload, 1) := by decide +kernel
theorem dX10_flowOf_27 : decode cX10_flowOf 27 = .ok (.invokevirtual 74, 3) := by decide +kernel
theorem dX10_flowOf_30 : decode cX10_flowOf 30 = .ok (.iadd, 1) := by decide +kernel
theorem dX10_flowOf_31 : decode cX10_flowOf 31 = .ok (.istore_n 3, 1) := by decide +kernel
theorem dX10_flowOf_32 : decode cX10_flowOf 32 = .ok (.iinc 4 1, 3) := by decide +kernel
theorem dX10_flowOf_35 : decode cX10_flowOf 35 = .ok (.goto (-30), 3) := by decide +kernel
theorem dX10_flowOf_38 : decode cX10_flowOf 38 = .ok (.aload_n 0, 1) := by decide +kernel
theorem dX10_flowOf_39 : decode cX10_flowOf 39 = .ok (.getfield 93, 3) := by decide +kernel
theorem dX10_flowOf_42 : decode cX10_flowOf 42 = .ok (.ifCond .ne 7, 3) := by decide +kernel
theorem dX10_flowOf_45 : decode cX10_flowOf 45 = .ok (.iconst (-1), 1) := by decide +kernel
theorem dX10_flowOf_46 : decode cX10_flowOf 46 = .ok (.goto 4, 3) := by decide +kernel
theorem dX10_flowOf_49 : decode cX10_flowOf 49 = .ok (.iload_n 3, 1) := by decide +kernel
theorem dX10_flowOf_50 : decode cX10_flowOf 50 = .ok (.ireturn, 1) := by decide +kernel
theorem dX10_holeWork_0 : decode cX10_holeWork 0 = .ok (.iconst 0, 1) := by decide +kernel
theorem dX10_holeWork_1 : decode cX10_holeWork 1 = .ok (.istore_n 1, 1) := by decide +kernel
theorem dX10_holeWork_2 : decode cX10_holeWork 2 = .ok (.iconst 0, 1) := by decide +kernel
theorem dX10_holeWork_3 : decode cX10_holeWork 3 = .ok (.istore_n 2, 1) := by decide +kernel
theorem dX10_holeWork_4 : decode cX10_holeWork 4 = .ok (.iload_n 2, 1) := by decide +kernel
theorem dX10_holeWork_5 : decode cX10_holeWork 5 = .ok (.aload_n 0, 1) := by decide +kernel
theorem dX10_holeWork_6 : decode cX10_holeWork 6 = .ok (.getfield 7, 3) := by decide +kernel
theorem dX10_holeWork_9 : decode cX10_holeWork 9 = .ok (.bipush 6, 2) := by decide +kernel
theorem dX10_holeWork_11 : decode cX10_holeWork 11 = .ok (.iaload, 1) := by decide +kernel
theorem dX10_holeWork_12 : decode cX10_holeWork 12 = .ok (.if_icmp .ge 18, 3) := by decide +kernel
theorem dX10_holeWork_15 : decode cX10_holeWork 15 = .ok (.iload_n 1, 1) := by decide +kernel
theorem dX10_holeWork_16 : decode cX10_holeWork 16 = .ok (.aload_n 0, 1) := by decide +kernel
theorem dX10_holeWork_17 : decode cX10_holeWork 17 = .ok (.iload_n 2, 1) := by decide +kernel
theorem dX10_holeWork_18 : decode cX10_holeWork 18 = .ok (.iconst 3, 1) := by decide +kernel
theorem dX10_holeWork_19 : decode cX10_holeWork 19 = .ok (.invokevirtual 71, 3) := by decide +kernel
theorem dX10_holeWork_22 : decode cX10_holeWork 22 = .ok (.iadd, 1) := by decide +kernel
theorem dX10_holeWork_23 : decode cX10_holeWork 23 = .ok (.istore_n 1, 1) := by decide +kernel
theorem dX10_holeWork_24 : decode cX10_holeWork 24 = .ok (.iinc 2 1, 3) := by decide +kernel
theorem dX10_holeWork_27 : decode cX10_holeWork 27 = .ok (.goto (-23), 3) := by decide +kernel
theorem dX10_holeWork_30 : decode cX10_holeWork 30 = .ok (.iload_n 1, 1) := by decide +kernel
theorem dX10_holeWork_31 : decode cX10_holeWork 31 = .ok (.ireturn, 1) := by decide +kernel
theorem dX10_rake_0 : decode cX10_rake 0 = .ok (.aload_n 0, 1) := by decide +kernel
theorem dX10_rake_1 : decode cX10_rake 1 = .ok (.iconst 0, 1) := by decide +kernel
theorem dX10_rake_2 : decode cX10_rake 2 = .ok (.putfield 38, 3) := by decide +kernel
theorem dX10_rake_5 : decode cX10_rake 5 = .ok (.iload_n 1, 1) := by decide +kernel
theorem dX10_rake_6 : decode cX10_rake 6 = .ok (.iconst 2, 1) := by decide +kernel
theorem dX10_rake_7 : decode cX10_rake 7 = .ok (.bipush 8, 2) := by decide +kernel
theorem dX10_rake_9 : decode cX10_rake 9 = .ok (.invokestatic 45, 3) := by decide +kernel
theorem dX10_rake_12 : decode cX10_rake 12 = .ok (.ifCond .ne 9, 3) := by decide +kernel
theorem dX10_rake_15 : decode cX10_rake 15 = .ok (.aload_n 0, 1) := by decide +kernel
theorem dX10_rake_16 : decode cX10_rake 16 = .ok (.iconst 1, 1) := by decide +kernel
theorem dX10_rake_17 : decode cX10_rake 17 = .ok (.invokevirtual 110, 3) := by decide +kernel
theorem dX10_rake_20 : decode cX10_rake 20 = .ok (.ireturn, 1) := by decide +kernel
theorem dX10_rake_21 : decode cX10_rake 21 = .ok (.aload_n 0, 1) := by decide +kernel
theorem dX10_rake_22 : decode cX10_rake 22 = .ok (.invokevirtual 113, 3) := by decide +kernel
theorem dX10_rake_25 : decode cX10_rake 25 = .ok (.aload_n 0, 1) := by decide +kernel
theorem dX10_rake_26 : decode cX10_rake 26 = .ok (.getfield 7, 3) := by decide +kernel
theorem dX10_rake_29 : decode cX10_rake 29 = .ok (.bipush 6, 2) := by decide +kernel
theorem dX10_rake_31 : decode cX10_rake 31 = .ok (.iaload, 1) := by decide +kernel
theorem dX10_rake_32 : decode cX10_rake 32 = .ok (.istore_n 2, 1) := by decide +kernel
theorem dX10_rake_33 : decode cX10_rake 33 = .ok (.aload_n 0, 1) := by decide +kernel
theorem dX10_rake_34 : decode cX10_rake 34 = .ok (.getfield 7, 3) := by decide +kernel
theorem dX10_rake_37 : decode cX10_rake 37 = .ok (.bipush 9, 2) := by decide +kernel
theorem dX10_rake_39 : decode cX10_rake 39 = .ok (.dup2, 1) := by decide +kernel
theorem dX10_rake_40 : decode cX10_rake 40 = .ok (.iaload, 1) := by decide +kernel
theorem dX10_rake_41 : decode cX10_rake 41 = .ok (.aload_n 0, 1) := by decide +kernel
theorem dX10_rake_42 : decode cX10_rake 42 = .ok (.invokevirtual 116, 3) := by decide +kernel
theorem dX10_rake_45 : decode cX10_rake 45 = .ok (.iadd, 1) := by decide +kernel
theorem dX10_rake_46 : decode cX10_rake 46 = .ok (.iastore, 1) := by decide +kernel
theorem dX10_rake_47 : decode cX10_rake 47 = .ok (.aload_n 0, 1) := by decide +kernel
theorem dX10_rake_48 : decode cX10_rake 48 = .ok (.getfield 7, 3) := by decide +kernel
theorem dX10_rake_51 : decode cX10_rake 51 = .ok (.bipush 6, 2) := by decide +kernel
theorem dX10_rake_53 : decode cX10_rake 53 = .ok (.iload_n 1, 1) := by decide +kernel
theorem dX10_rake_54 : decode cX10_rake 54 = .ok (.iastore, 1) := by decide +kernel
theorem dX10_rake_55 : decode cX10_rake 55 = .ok (.aload_n 0, 1) := by decide +kernel
theorem dX10_rake_56 : decode cX10_rake 56 = .ok (.invokevirtual 42, 3) := by decide +kernel
theorem dX10_rake_59 : decode cX10_rake 59 = .ok (.iload_n 2, 1) := by decide +kernel
theorem dX10_rake_60 : decode cX10_rake 60 = .ok (.ireturn, 1) := by decide +kernel
theorem dX10_radius_0 : decode cX10_radius 0 = .ok (.aload_n 0, 1) := by decide +kernel
theorem dX10_radius_1 : decode cX10_radius 1 = .ok (.iconst 0, 1) := by decide +kernel
theorem dX10_radius_2 : decode cX10_radius 2 = .ok (.putfield 38, 3) := by decide +kernel
theorem dX10_radius_5 : decode cX10_radius 5 = .ok (.iload_n 1, 1) := by decide +kernel
theorem dX10_radius_6 : decode cX10_radius 6 = .ok (.bipush 50, 2) := by decide +kernel
theorem dX10_radius_8 : decode cX10_radius 8 = .ok (.sipush 500, 3) := by decide +kernel
theorem dX10_radius_11 : decode cX10_radius 11 = .ok (.invokestatic 45, 3) := by decide +kernel
theorem dX10_radius_14 : decode cX10_radius 14 = .ok (.ifCond .ne 9, 3) := by decide +kernel
theorem dX10_radius_17 : decode cX10_radius 17 = .ok (.aload_n 0, 1) := by decide +kernel
theorem dX10_radius_18 : decode cX10_radius 18 = .ok (.iconst 1, 1) := by decide +kernel
theorem dX10_radius_19 : decode cX10_radius 19 = .ok (.invokevirtual 110, 3) := by decide +kernel
theorem dX10_radius_22 : decode cX10_radius 22 = .ok (.ireturn, 1) := by decide +kernel
theorem dX10_radius_23 : decode cX10_radius 23 = .ok (.aload_n 0, 1) := by decide +kernel
theorem dX10_radius_24 : decode cX10_radius 24 = .ok (.invokevirtual 113, 3) := by decide +kernel
theorem dX10_radius_27 : decode cX10_radius 27 = .ok (.aload_n 0, 1) := by decide +kernel
theorem dX10_radius_28 : decode cX10_radius 28 = .ok (.getfield 7, 3) := by decide +kernel
theorem dX10_radius_31 : decode cX10_radius 31 = .ok (.iconst 5, 1) := by decide +kernel
theorem dX10_radius_32 : decode cX10_radius 32 = .ok (.iaload, 1) := by decide +kernel
theorem dX10_radius_33 : decode cX10_radius 33 = .ok (.istore_n 2, 1) := by decide +kernel
theorem dX10_radius_34 : decode cX10_radius 34 = .ok (.aload_n 0, 1) := by decide +kernel
theorem dX10_radius_35 : decode cX10_radius 35 = .ok (.getfield 7, 3) := by decide +kernel
theorem dX10_radius_38 : decode cX10_radius 38 = .ok (.iconst 5, 1) := by decide +kernel
theorem dX10_radius_39 : decode cX10_radius 39 = .ok (.iload_n 1, 1) := by decide +kernel
theorem dX10_radius_40 : decode cX10_radius 40 = .ok (.iastore, 1) := by decide +kernel
theorem dX10_radius_41 : decode cX10_radius 41 = .ok (.iload_n 2, 1) := by decide +kernel
theorem dX10_radius_42 : decode cX10_radius 42 = .ok (.ireturn, 1) := by decide +kernel
theorem dX10_changes_0 : decode cX10_changes 0 = .ok (.aload_n 0, 1) := by decide +kernel
theorem dX10_changes_1 : decode cX10_changes 1 = .ok (.iload_n 1, 1) := by decide +kernel
theorem dX10_changes_2 : decode cX10_changes 2 = .ok (.invokevirtual 87, 3) := by decide +kernel
theorem dX10_changes_5 : decode cX10_changes 5 = .ok (.ifCond .ne 9, 3) := by decide +kernel
theorem dX10_changes_8 : decode cX10_changes 8 = .ok (.aload_n 0, 1) := by decide +kernel
theorem dX10_changes_9 : decode cX10_changes 9 = .ok (.iconst 1, 1) := by decide +kernel
theorem dX10_changes_10 : decode cX10_changes 10 = .ok (.invokevirtual 110, 3) := by decide +kernel
theorem dX10_changes_13 : decode cX10_changes 13 = .ok (.ireturn, 1) := by decide +kernel
theorem dX10_changes_14 : decode cX10_changes 14 = .ok (.iload_n 3, 1) := by decide +kernel
theorem dX10_changes_15 : decode cX10_changes 15 = .ok (.iconst 0, 1) := by decide +kernel
theorem dX10_changes_16 : decode cX10_changes 16 = .ok (.bipush 100, 2) := by decide +kernel
theorem dX10_changes_18 : decode cX10_changes 18 = .ok (.invokestatic 45, 3) := by decide +kernel
theorem dX10_changes_21 : decode cX10_changes 21 = .ok (.ifCond .ne 9, 3) := by decide +kernel
theorem dX10_changes_24 : decode cX10_changes 24 = .ok (.aload_n 0, 1) := by decide +kernel
theorem dX10_changes_25 : decode cX10_changes 25 = .ok (.iconst 2, 1) := by decide +kernel
theorem dX10_changes_26 : decode cX10_changes 26 = .ok (.invokevirtual 110, 3) := by decide +kernel
theorem dX10_changes_29 : decode cX10_changes 29 = .ok (.ireturn, 1) := by decide +kernel
theorem dX10_changes_30 : decode cX10_changes 30 = .ok (.aload_n 0, 1) := by decide +kernel
theorem dX10_changes_31 : decode cX10_changes 31 = .ok (.invokevirtual 113, 3) := by decide +kernel
theorem dX10_changes_34 : decode cX10_changes 34 = .ok (.aload_n 0, 1) := by decide +kernel
theorem dX10_changes_35 : decode cX10_changes 35 = .ok (.iload_n 1, 1) := by decide +kernel
theorem dX10_changes_36 : decode cX10_changes 36 = .ok (.iload_n 2, 1) := by decide +kernel
theorem dX10_changes_37 : decode cX10_changes 37 = .ok (.invokevirtual 71, 3) := by decide +kernel
theorem dX10_changes_40 : decode cX10_changes 40 = .ok (.istore 4, 2) := by decide +kernel
theorem dX10_changes_42 : decode cX10_changes 42 = .ok (.aload_n 0, 1) := by decide +kernel
theorem dX10_changes_43 : decode cX10_changes 43 = .ok (.iload_n 1, 1) := by decide +kernel
theorem dX10_changes_44 : decode cX10_changes 44 = .ok (.iload_n 2, 1) := by decide +kernel
theorem dX10_changes_45 : decode cX10_changes 45 = .ok (.iload_n 3, 1) := by decide +kernel
theorem dX10_changes_46 : decode cX10_changes 46 = .ok (.invokevirtual 49, 3) := by decide +kernel
theorem dX10_changes_49 : decode cX10_changes 49 = .ok (.iload 4, 2) := by decide +kernel
theorem dX10_changes_51 : decode cX10_changes 51 = .ok (.ireturn, 1) := by decide +kernel
theorem dX10_block_0 : decode cX10_block 0 = .ok (.aload_n 0, 1) := by decide +kernel
theorem dX10_block_1 : decode cX10_block 1 = .ok (.iconst 0, 1) := by decide +kernel
theorem dX10_block_2 : decode cX10_block 2 = .ok (.putfield 38, 3) := by decide +kernel
theorem dX10_block_5 : decode cX10_block 5 = .ok (.aload_n 0, 1) := by decide +kernel
theorem dX10_block_6 : decode cX10_block 6 = .ok (.iload_n 1, 1) := by decide +kernel
theorem dX10_block_7 : decode cX10_block 7 = .ok (.iconst 0, 1) := by decide +kernel
theorem dX10_block_8 : decode cX10_block 8 = .ok (.iload_n 2, 1) := by decide +kernel
theorem dX10_block_9 : decode cX10_block 9 = .ok (.invokevirtual 120, 3) := by decide +kernel
theorem dX10_block_12 : decode cX10_block 12 = .ok (.ireturn, 1) := by decide +kernel
theorem dX10_leak_0 : decode cX10_leak 0 = .ok (.aload_n 0, 1) := by decide +kernel
theorem dX10_leak_1 : decode cX10_leak 1 = .ok (.iconst 0, 1) := by decide +kernel
theorem dX10_leak_2 : decode cX10_leak 2 = .ok (.putfield 38, 3) := by decide +kernel
theorem dX10_leak_5 : decode cX10_leak 5 = .ok (.aload_n 0, 1) := by decide +kernel
theorem dX10_leak_6 : decode cX10_leak 6 = .ok (.iload_n 1, 1) := by decide +kernel
theorem dX10_leak_7 : decode cX10_leak 7 = .ok (.iconst 1, 1) := by decide +kernel
theorem dX10_leak_8 : decode cX10_leak 8 = .ok (.iload_n 2, 1) := by decide +kernel
theorem dX10_leak_9 : decode cX10_leak 9 = .ok (.invokevirtual 120, 3) := by decide +kernel
theorem dX10_leak_12 : decode cX10_leak 12 = .ok (.ireturn, 1) := by decide +kernel
theorem dX10_clean_0 : decode cX10_clean 0 = .ok (.aload_n 0, 1) := by decide +kernel
theorem dX10_clean_1 : decode cX10_clean 1 = .ok (.iconst 0, 1) := by decide +kernel
theorem dX10_clean_2 : decode cX10_clean 2 = .ok (.putfield 38, 3) := by decide +kernel
theorem dX10_clean_5 : decode cX10_clean 5 = .ok (.aload_n 0, 1) := by decide +kernel
theorem dX10_clean_6 : decode cX10_clean 6 = .ok (.iload_n 1, 1) := by decide +kernel
theorem dX10_clean_7 : decode cX10_clean 7 = .ok (.invokevirtual 87, 3) := by decide +kernel
theorem dX10_clean_10 : decode cX10_clean 10 = .ok (.ifCond .ne 9, 3) := by decide +kernel
theorem dX10_clean_13 : decode cX10_clean 13 = .ok (.aload_n 0, 1) := by decide +kernel
theorem dX10_clean_14 : decode cX10_clean 14 = .ok (.iconst 1, 1) := by decide +kernel
theorem dX10_clean_15 : decode cX10_clean 15 = .ok (.invokevirtual 110, 3) := by decide +kernel
theorem dX10_clean_18 : decode cX10_clean 18 = .ok (.ireturn, 1) := by decide +kernel
theorem dX10_clean_19 : decode cX10_clean 19 = .ok (.aload_n 0, 1) := by decide +kernel
theorem dX10_clean_20 : decode cX10_clean 20 = .ok (.invokevirtual 113, 3) := by decide +kernel
theorem dX10_clean_23 : decode cX10_clean 23 = .ok (.iconst 2, 1) := by decide +kernel
theorem dX10_clean_24 : decode cX10_clean 24 = .ok (.bipush 100, 2) := by decide +kernel
theorem dX10_clean_26 : decode cX10_clean 26 = .ok (.aload_n 0, 1) := by decide +kernel
theorem dX10_clean_27 : decode cX10_clean 27 = .ok (.iload_n 1, 1) := by decide +kernel
theorem dX10_clean_28 : decode cX10_clean 28 = .ok (.iconst 0, 1) := by decide +kernel
theorem dX10_clean_29 : decode cX10_clean 29 = .ok (.invokevirtual 71, 3) := by decide +kernel
theorem dX10_clean_32 : decode cX10_clean 32 = .ok (.isub, 1) := by decide +kernel
theorem dX10_clean_33 : decode cX10_clean 33 = .ok (.bipush 10, 2) := by decide +kernel
theorem dX10_clean_35 : decode cX10_clean 35 = .ok (.idiv, 1) := by decide +kernel
theorem dX10_clean_36 : decode cX10_clean 36 = .ok (.iadd, 1) := by decide +kernel
theorem dX10_clean_37 : decode cX10_clean 37 = .ok (.aload_n 0, 1) := by decide +kernel
theorem dX10_clean_38 : decode cX10_clean 38 = .ok (.iload_n 1, 1) := by decide +kernel
theorem dX10_clean_39 : decode cX10_clean 39 = .ok (.iconst 1, 1) := by decide +kernel
theorem dX10_clean_40 : decode cX10_clean 40 = .ok (.invokevirtual 71, 3) := by decide +kernel
theorem dX10_clean_43 : decode cX10_clean 43 = .ok (.ifCond .le 7, 3) := by decide +kernel
theorem dX10_clean_46 : decode cX10_clean 46 = .ok (.iconst 4, 1) := by decide +kernel
theorem dX10_clean_47 : decode cX10_clean 47 = .ok (.goto 4, 3) := by decide +kernel
theorem dX10_clean_50 : decode cX10_clean 50 = .ok (.iconst 0, 1) := by decide +kernel
theorem dX10_clean_51 : decode cX10_clean 51 = .ok (.iadd, 1) := by decide +kernel
theorem dX10_clean_52 : decode cX10_clean 52 = .ok (.istore_n 2, 1) := by decide +kernel
theorem dX10_clean_53 : decode cX10_clean 53 = .ok (.aload_n 0, 1) := by decide +kernel
theorem dX10_clean_54 : decode cX10_clean 54 = .ok (.iload_n 1, 1) := by decide +kernel
theorem dX10_clean_55 : decode cX10_clean 55 = .ok (.iconst 0, 1) := by decide +kernel
theorem dX10_clean_56 : decode cX10_clean 56 = .ok (.bipush 100, 2) := by decide +kernel
theorem dX10_clean_58 : decode cX10_clean 58 = .ok (.invokevirtual 49, 3) := by decide +kernel
theorem dX10_clean_61 : decode cX10_clean 61 = .ok (.aload_n 0, 1) := by decide +kernel
theorem dX10_clean_62 : decode cX10_clean 62 = .ok (.iload_n 1, 1) := by decide +kernel
theorem dX10_clean_63 : decode cX10_clean 63 = .ok (.iconst 1, 1) := by decide +kernel
theorem dX10_clean_64 : decode cX10_clean 64 = .ok (.iconst 0, 1) := by decide +kernel
theorem dX10_clean_65 : decode cX10_clean 65 = .ok (.invokevirtual 49, 3) := by decide +kernel
theorem dX10_clean_68 : decode cX10_clean 68 = .ok (.aload_n 0, 1) := by decide +kernel
theorem dX10_clean_69 : decode cX10_clean 69 = .ok (.iload_n 1, 1) := by decide +kernel
theorem dX10_clean_70 : decode cX10_clean 70 = .ok (.iconst 2, 1) := by decide +kernel
theorem dX10_clean_71 : decode cX10_clean 71 = .ok (.iconst 0, 1) := by decide +kernel
theorem dX10_clean_72 : decode cX10_clean 72 = .ok (.invokevirtual 49, 3) := by decide +kernel
theorem dX10_clean_75 : decode cX10_clean 75 = .ok (.aload_n 0, 1) := by decide +kernel
theorem dX10_clean_76 : decode cX10_clean 76 = .ok (.iload_n 1, 1) := by decide +kernel
theorem dX10_clean_77 : decode cX10_clean 77 = .ok (.iconst 3, 1) := by decide +kernel
theorem dX10_clean_78 : decode cX10_clean 78 = .ok (.aload_n 0, 1) := by decide +kernel
theorem dX10_clean_79 : decode cX10_clean 79 = .ok (.iload_n 1, 1) := by decide +kernel
theorem dX10_clean_80 : decode cX10_clean 80 = .ok (.iconst 3, 1) := by decide +kernel
theorem dX10_clean_81 : decode cX10_clean 81 = .ok (.invokevirtual 71, 3) := by decide +kernel
theorem dX10_clean_84 : decode cX10_clean 84 = .ok (.iload_n 2, 1) := by decide +kernel
theorem dX10_clean_85 : decode cX10_clean 85 = .ok (.iadd, 1) := by decide +kernel
theorem dX10_clean_86 : decode cX10_clean 86 = .ok (.invokevirtual 49, 3) := by decide +kernel
theorem dX10_clean_89 : decode cX10_clean 89 = .ok (.iload_n 2, 1) := by decide +kernel
theorem dX10_clean_90 : decode cX10_clean 90 = .ok (.ireturn, 1) := by decide +kernel
theorem dX10_test_0 : decode cX10_test 0 = .ok (.aload_n 0, 1) := by decide +kernel
theorem dX10_test_1 : decode cX10_test 1 = .ok (.iconst 0, 1) := by decide +kernel
theorem dX10_test_2 : decode cX10_test 2 = .ok (.putfield 38, 3) := by decide +kernel
theorem dX10_test_5 : decode cX10_test 5 = .ok (.aload_n 0, 1) := by decide +kernel
theorem dX10_test_6 : decode cX10_test 6 = .ok (.iload_n 1, 1) := by decide +kernel
theorem dX10_test_7 : decode cX10_test 7 = .ok (.invokevirtual 87, 3) := by decide +kernel
theorem dX10_test_10 : decode cX10_test 10 = .ok (.ifCond .ne 9, 3) := by decide +kernel
theorem dX10_test_13 : decode cX10_test 13 = .ok (.aload_n 0, 1) := by decide +kernel
theorem dX10_test_14 : decode cX10_test 14 = .ok (.iconst 1, 1) := by decide +kernel
theorem dX10_test_15 : decode cX10_test 15 = .ok (.invokevirtual 110, 3) := by decide +kernel
theorem dX10_test_18 : decode cX10_test 18 = .ok (.ireturn, 1) := by decide +kernel
theorem dX10_test_19 : decode cX10_test 19 = .ok (.aload_n 0, 1) := by decide +kernel
theorem dX10_test_20 : decode cX10_test 20 = .ok (.invokevirtual 113, 3) := by decide +kernel
theorem dX10_test_23 : decode cX10_test 23 = .ok (.aload_n 0, 1) := by decide +kernel
theorem dX10_test_24 : decode cX10_test 24 = .ok (.iload_n 1, 1) := by decide +kernel
theorem dX10_test_25 : decode cX10_test 25 = .ok (.iconst 1, 1) := by decide +kernel
theorem dX10_test_26 : decode cX10_test 26 = .ok (.invokevirtual 71, 3) := by decide +kernel
theorem dX10_test_29 : decode cX10_test 29 = .ok (.aload_n 0, 1) := by decide +kernel
theorem dX10_test_30 : decode cX10_test 30 = .ok (.getfield 7, 3) := by decide +kernel
theorem dX10_test_33 : decode cX10_test 33 = .ok (.iconst 4, 1) := by decide +kernel
theorem dX10_test_34 : decode cX10_test 34 = .ok (.iaload, 1) := by decide +kernel
theorem dX10_test_35 : decode cX10_test 35 = .ok (.if_icmp .le 7, 3) := by decide +kernel
theorem dX10_test_38 : decode cX10_test 38 = .ok (.iconst 2, 1) := by decide +kernel
theorem dX10_test_39 : decode cX10_test 39 = .ok (.goto 4, 3) := by decide +kernel
theorem dX10_test_42 : decode cX10_test 42 = .ok (.iconst 1, 1) := by decide +kernel
theorem dX10_test_43 : decode cX10_test 43 = .ok (.istore_n 2, 1) := by decide +kernel
theorem dX10_test_44 : decode cX10_test 44 = .ok (.aload_n 0, 1) := by decide +kernel
theorem dX10_test_45 : decode cX10_test 45 = .ok (.iload_n 1, 1) := by decide +kernel
theorem dX10_test_46 : decode cX10_test 46 = .ok (.iconst 2, 1) := by decide +kernel
theorem dX10_test_47 : decode cX10_test 47 = .ok (.iload_n 2, 1) := by decide +kernel
theorem dX10_test_48 : decode cX10_test 48 = .ok (.invokevirtual 49, 3) := by decide +kernel
theorem dX10_test_51 : decode cX10_test 51 = .ok (.aload_n 0, 1) := by decide +kernel
theorem dX10_test_52 : decode cX10_test 52 = .ok (.iload_n 1, 1) := by decide +kernel
theorem dX10_test_53 : decode cX10_test 53 = .ok (.iconst 3, 1) := by decide +kernel
theorem dX10_test_54 : decode cX10_test 54 = .ok (.aload_n 0, 1) := by decide +kernel
theorem dX10_test_55 : decode cX10_test 55 = .ok (.iload_n 1, 1) := by decide +kernel
theorem dX10_test_56 : decode cX10_test 56 = .ok (.iconst 3, 1) := by decide +kernel
theorem dX10_test_57 : decode cX10_test 57 = .ok (.invokevirtual 71, 3) := by decide +kernel
theorem dX10_test_60 : decode cX10_test 60 = .ok (.iconst 3, 1) := by decide +kernel
theorem dX10_test_61 : decode cX10_test 61 = .ok (.iadd, 1) := by decide +kernel
theorem dX10_test_62 : decode cX10_test 62 = .ok (.invokevirtual 49, 3) := by decide +kernel
theorem dX10_test_65 : decode cX10_test 65 = .ok (.iload_n 2, 1) := by decide +kernel
theorem dX10_test_66 : decode cX10_test 66 = .ok (.ireturn, 1) := by decide +kernel
theorem dX10_drops_0 : decode cX10_drops 0 = .ok (.aload_n 0, 1) := by decide +kernel
theorem dX10_drops_1 : decode cX10_drops 1 = .ok (.getfield 7, 3) := by decide +kernel
theorem dX10_drops_4 : decode cX10_drops 4 = .ok (.bipush 7, 2) := by decide +kernel
theorem dX10_drops_6 : decode cX10_drops 6 = .ok (.dup2, 1) := by decide +kernel
theorem dX10_drops_7 : decode cX10_drops 7 = .ok (.iaload, 1) := by decide +kernel
theorem dX10_drops_8 : decode cX10_drops 8 = .ok (.iconst 1, 1) := by decide +kernel
theorem dX10_drops_9 : decode cX10_drops 9 = .ok (.isub, 1) := by decide +kernel
theorem dX10_drops_10 : decode cX10_drops 10 = .ok (.iastore, 1) := by decide +kernel
theorem dX10_drops_11 : decode cX10_drops 11 = .ok (.bipush 10, 2) := by decide +kernel
theorem dX10_drops_13 : decode cX10_drops 13 = .ok (.iload_n 1, 1) := by decide +kernel
theorem dX10_drops_14 : decode cX10_drops 14 = .ok (.imul, 1) := by decide +kernel
theorem dX10_drops_15 : decode cX10_drops 15 = .ok (.istore_n 2, 1) := by decide +kernel
theorem dX10_drops_16 : decode cX10_drops 16 = .ok (.iload_n 2, 1) := by decide +kernel
theorem dX10_drops_17 : decode cX10_drops 17 = .ok (.bipush 10, 2) := by decide +kernel
theorem dX10_drops_19 : decode cX10_drops 19 = .ok (.aload_n 0, 1) := by decide +kernel
theorem dX10_drops_20 : decode cX10_drops 20 = .ok (.getfield 7, 3) := by decide +kernel
theorem dX10_drops_23 : decode cX10_drops 23 = .ok (.bipush 7, 2) := by decide +kernel
theorem dX10_drops_25 : decode cX10_drops 25 = .ok (.iaload, 1) := by decide +kernel
theorem dX10_drops_26 : decode cX10_drops 26 = .ok (.imul, 1) := by decide +kernel
theorem dX10_drops_27 : decode cX10_drops 27 = .ok (.if_icmp .ge 30, 3) := by decide +kernel
theorem dX10_drops_30 : decode cX10_drops 30 = .ok (.aload_n 0, 1) := by decide +kernel
theorem dX10_drops_31 : decode cX10_drops 31 = .ok (.getfield 7, 3) := by decide +kernel
theorem dX10_drops_34 : decode cX10_drops 34 = .ok (.bipush 42, 2) := by decide +kernel
theorem dX10_drops_36 : decode cX10_drops 36 = .ok (.iload_n 2, 1) := by decide +kernel
theorem dX10_drops_37 : decode cX10_drops 37 = .ok (.iadd, 1) := by decide +kernel
theorem dX10_drops_38 : decode cX10_drops 38 = .ok (.aload_n 0, 1) := by decide +kernel
theorem dX10_drops_39 : decode cX10_drops 39 = .ok (.getfield 7, 3) := by decide +kernel
theorem dX10_drops_42 : decode cX10_drops 42 = .ok (.bipush 42, 2) := by decide +kernel
theorem dX10_drops_44 : decode cX10_drops 44 = .ok (.iload_n 2, 1) := by decide +kernel
theorem dX10_drops_45 : decode cX10_drops 45 = .ok (.iadd, 1) := by decide +kernel
theorem dX10_drops_46 : decode cX10_drops 46 = .ok (.bipush 10, 2) := by decide +kernel
theorem dX10_drops_48 : decode cX10_drops 48 = .ok (.iadd, 1) := by decide +kernel
theorem dX10_drops_49 : decode cX10_drops 49 = .ok (.iaload, 1) := by decide +kernel
theorem dX10_drops_50 : decode cX10_drops 50 = .ok (.iastore, 1) := by decide +kernel
theorem dX10_drops_51 : decode cX10_drops 51 = .ok (.iinc 2 1, 3) := by decide +kernel
theorem dX10_drops_54 : decode cX10_drops 54 = .ok (.goto (-38), 3) := by decide +kernel
theorem dX10_drops_57 : decode cX10_drops 57 = .ok (.return_, 1) := by decide +kernel
theorem dX10_comes_0 : decode cX10_comes 0 = .ok (.aload_n 0, 1) := by decide +kernel
theorem dX10_comes_1 : decode cX10_comes 1 = .ok (.getfield 7, 3) := by decide +kernel
theorem dX10_comes_4 : decode cX10_comes 4 = .ok (.bipush 7, 2) := by decide +kernel
theorem dX10_comes_6 : decode cX10_comes 6 = .ok (.iaload, 1) := by decide +kernel
theorem dX10_comes_7 : decode cX10_comes 7 = .ok (.bipush 12, 2) := by decide +kernel
theorem dX10_comes_9 : decode cX10_comes 9 = .ok (.if_icmp .ne 8, 3) := by decide +kernel
theorem dX10_comes_12 : decode cX10_comes 12 = .ok (.aload_n 0, 1) := by decide +kernel
theorem dX10_comes_13 : decode cX10_comes 13 = .ok (.iconst 0, 1) := by decide +kernel
theorem dX10_comes_14 : decode cX10_comes 14 = .ok (.invokevirtual 124, 3) := by decide +kernel
theorem dX10_comes_17 : decode cX10_comes 17 = .ok (.bipush 42, 2) := by decide +kernel
theorem dX10_comes_19 : decode cX10_comes 19 = .ok (.bipush 10, 2) := by decide +kernel
theorem dX10_comes_21 : decode cX10_comes 21 = .ok (.aload_n 0, 1) := by decide +kernel
theorem dX10_comes_22 : decode cX10_comes 22 = .ok (.getfield 7, 3) := by decide +kernel
theorem dX10_comes_25 : decode cX10_comes 25 = .ok (.bipush 7, 2) := by decide +kernel
theorem dX10_comes_27 : decode cX10_comes 27 = .ok (.iaload, 1) := by decide +kernel
theorem dX10_comes_28 : decode cX10_comes 28 = .ok (.imul, 1) := by decide +kernel
theorem dX10_comes_29 : decode cX10_comes 29 = .ok (.iadd, 1) := by decide +kernel
theorem dX10_comes_30 : decode cX10_comes 30 = .ok (.istore_n 2, 1) := by decide +kernel
theorem dX10_comes_31 : decode cX10_comes 31 = .ok (.aload_n 0, 1) := by decide +kernel
theorem dX10_comes_32 : decode cX10_comes 32 = .ok (.getfield 7, 3) := by decide +kernel
theorem dX10_comes_35 : decode cX10_comes 35 = .ok (.iload_n 2, 1) := by decide +kernel
theorem dX10_comes_36 : decode cX10_comes 36 = .ok (.iload_n 1, 1) := by decide +kernel
theorem dX10_comes_37 : decode cX10_comes 37 = .ok (.iastore, 1) := by decide +kernel
theorem dX10_comes_38 : decode cX10_comes 38 = .ok (.aload_n 0, 1) := by decide +kernel
theorem dX10_comes_39 : decode cX10_comes 39 = .ok (.getfield 7, 3) := by decide +kernel
theorem dX10_comes_42 : decode cX10_comes 42 = .ok (.iload_n 2, 1) := by decide +kernel
theorem dX10_comes_43 : decode cX10_comes 43 = .ok (.iconst 1, 1) := by decide +kernel
theorem dX10_comes_44 : decode cX10_comes 44 = .ok (.iadd, 1) := by decide +kernel
theorem dX10_comes_45 : decode cX10_comes 45 = .ok (.aload_n 0, 1) := by decide +kernel
theorem dX10_comes_46 : decode cX10_comes 46 = .ok (.getfield 7, 3) := by decide +kernel
theorem dX10_comes_49 : decode cX10_comes 49 = .ok (.iconst 5, 1) := by decide +kernel
theorem dX10_comes_50 : decode cX10_comes 50 = .ok (.iaload, 1) := by decide +kernel
theorem dX10_comes_51 : decode cX10_comes 51 = .ok (.iastore, 1) := by decide +kernel
theorem dX10_comes_52 : decode cX10_comes 52 = .ok (.aload_n 0, 1) := by decide +kernel
theorem dX10_comes_53 : decode cX10_comes 53 = .ok (.getfield 7, 3) := by decide +kernel
theorem dX10_comes_56 : decode cX10_comes 56 = .ok (.bipush 7, 2) := by decide +kernel
theorem dX10_comes_58 : decode cX10_comes 58 = .ok (.dup2, 1) := by decide +kernel
theorem dX10_comes_59 : decode cX10_comes 59 = .ok (.iaload, 1) := by decide +kernel
theorem dX10_comes_60 : decode cX10_comes 60 = .ok (.iconst 1, 1) := by decide +kernel
theorem dX10_comes_61 : decode cX10_comes 61 = .ok (.iadd, 1) := by decide +kernel
theorem dX10_comes_62 : decode cX10_comes 62 = .ok (.iastore, 1) := by decide +kernel
theorem dX10_comes_63 : decode cX10_comes 63 = .ok (.aload_n 0, 1) := by decide +kernel
theorem dX10_comes_64 : decode cX10_comes 64 = .ok (.getfield 7, 3) := by decide +kernel
theorem dX10_comes_67 : decode cX10_comes 67 = .ok (.bipush 8, 2) := by decide +kernel
theorem dX10_comes_69 : decode cX10_comes 69 = .ok (.dup2, 1) := by decide +kernel
theorem dX10_comes_70 : decode cX10_comes 70 = .ok (.iaload, 1) := by decide +kernel
theorem dX10_comes_71 : decode cX10_comes 71 = .ok (.iconst 1, 1) := by decide +kernel
theorem dX10_comes_72 : decode cX10_comes 72 = .ok (.iadd, 1) := by decide +kernel
theorem dX10_comes_73 : decode cX10_comes 73 = .ok (.iastore, 1) := by decide +kernel
theorem dX10_comes_74 : decode cX10_comes 74 = .ok (.iload_n 2, 1) := by decide +kernel
theorem dX10_comes_75 : decode cX10_comes 75 = .ok (.iconst 2, 1) := by decide +kernel
theorem dX10_comes_76 : decode cX10_comes 76 = .ok (.iadd, 1) := by decide +kernel
theorem dX10_comes_77 : decode cX10_comes 77 = .ok (.ireturn, 1) := by decide +kernel
theorem dX10_read_0 : decode cX10_read 0 = .ok (.aload_n 0, 1) := by decide +kernel
theorem dX10_read_1 : decode cX10_read 1 = .ok (.iconst 0, 1) := by decide +kernel
theorem dX10_read_2 : decode cX10_read 2 = .ok (.putfield 38, 3) := by decide +kernel
theorem dX10_read_5 : decode cX10_read 5 = .ok (.aload_n 0, 1) := by decide +kernel
theorem dX10_read_6 : decode cX10_read 6 = .ok (.invokevirtual 113, 3) := by decide +kernel
theorem dX10_read_9 : decode cX10_read 9 = .ok (.aload_n 0, 1) := by decide +kernel
theorem dX10_read_10 : decode cX10_read 10 = .ok (.aload_n 0, 1) := by decide +kernel
theorem dX10_read_11 : decode cX10_read 11 = .ok (.getfield 7, 3) := by decide +kernel
theorem dX10_read_14 : decode cX10_read 14 = .ok (.bipush 6, 2) := by decide +kernel
theorem dX10_read_16 : decode cX10_read 16 = .ok (.iaload, 1) := by decide +kernel
theorem dX10_read_17 : decode cX10_read 17 = .ok (.invokevirtual 127, 3) := by decide +kernel
theorem dX10_read_20 : decode cX10_read 20 = .ok (.istore_n 1, 1) := by decide +kernel
theorem dX10_read_21 : decode cX10_read 21 = .ok (.iconst 0, 1) := by decide +kernel
theorem dX10_read_22 : decode cX10_read 22 = .ok (.istore_n 2, 1) := by decide +kernel
theorem dX10_read_23 : decode cX10_read 23 = .ok (.iload_n 2, 1) := by decide +kernel
theorem dX10_read_24 : decode cX10_read 24 = .ok (.aload_n 0, 1) := by decide +kernel
theorem dX10_read_25 : decode cX10_read 25 = .ok (.getfield 7, 3) := by decide +kernel
theorem dX10_read_28 : decode cX10_read 28 = .ok (.bipush 6, 2) := by decide +kernel
theorem dX10_read_30 : decode cX10_read 30 = .ok (.iaload, 1) := by decide +kernel
theorem dX10_read_31 : decode cX10_read 31 = .ok (.if_icmp .ge 22, 3) := by decide +kernel
theorem dX10_read_34 : decode cX10_read 34 = .ok (.aload_n 0, 1) := by decide +kernel
theorem dX10_read_35 : decode cX10_read 35 = .ok (.getfield 7, 3) := by decide +kernel
theorem dX10_read_38 : decode cX10_read 38 = .ok (.iload_n 1, 1) := by decide +kernel
theorem dX10_read_39 : decode cX10_read 39 = .ok (.iload_n 2, 1) := by decide +kernel
theorem dX10_read_40 : decode cX10_read 40 = .ok (.iadd, 1) := by decide +kernel
theorem dX10_read_41 : decode cX10_read 41 = .ok (.aload_n 0, 1) := by decide +kernel
theorem dX10_read_42 : decode cX10_read 42 = .ok (.iload_n 2, 1) := by decide +kernel
theorem dX10_read_43 : decode cX10_read 43 = .ok (.invokevirtual 130, 3) := by decide +kernel
theorem dX10_read_46 : decode cX10_read 46 = .ok (.iastore, 1) := by decide +kernel
theorem dX10_read_47 : decode cX10_read 47 = .ok (.iinc 2 1, 3) := by decide +kernel
theorem dX10_read_50 : decode cX10_read 50 = .ok (.goto (-27), 3) := by decide +kernel
theorem dX10_read_53 : decode cX10_read 53 = .ok (.aload_n 0, 1) := by decide +kernel
theorem dX10_read_54 : decode cX10_read 54 = .ok (.getfield 7, 3) := by decide +kernel
theorem dX10_read_57 : decode cX10_read 57 = .ok (.bipush 7, 2) := by decide +kernel
theorem dX10_read_59 : decode cX10_read 59 = .ok (.iaload, 1) := by decide +kernel
theorem dX10_read_60 : decode cX10_read 60 = .ok (.ireturn, 1) := by decide +kernel
theorem dX10_drop_0 : decode cX10_drop 0 = .ok (.aload_n 0, 1) := by decide +kernel
theorem dX10_drop_1 : decode cX10_drop 1 = .ok (.iconst 0, 1) := by decide +kernel
theorem dX10_drop_2 : decode cX10_drop 2 = .ok (.putfield 38, 3) := by decide +kernel
theorem dX10_drop_5 : decode cX10_drop 5 = .ok (.iload_n 1, 1) := by decide +kernel
theorem dX10_drop_6 : decode cX10_drop 6 = .ok (.iconst 0, 1) := by decide +kernel
theorem dX10_drop_7 : decode cX10_drop 7 = .ok (.aload_n 0, 1) := by decide +kernel
theorem dX10_drop_8 : decode cX10_drop 8 = .ok (.getfield 7, 3) := by decide +kernel
theorem dX10_drop_11 : decode cX10_drop 11 = .ok (.bipush 7, 2) := by decide +kernel
theorem dX10_drop_13 : decode cX10_drop 13 = .ok (.iaload, 1) := by decide +kernel
theorem dX10_drop_14 : decode cX10_drop 14 = .ok (.iconst 1, 1) := by decide +kernel
theorem dX10_drop_15 : decode cX10_drop 15 = .ok (.isub, 1) := by decide +kernel
theorem dX10_drop_16 : decode cX10_drop 16 = .ok (.invokestatic 45, 3) := by decide +kernel
theorem dX10_drop_19 : decode cX10_drop 19 = .ok (.ifCond .ne 9, 3) := by decide +kernel
theorem dX10_drop_22 : decode cX10_drop 22 = .ok (.aload_n 0, 1) := by decide +kernel
theorem dX10_drop_23 : decode cX10_drop 23 = .ok (.iconst 1, 1) := by decide +kernel
theorem dX10_drop_24 : decode cX10_drop 24 = .ok (.invokevirtual 110, 3) := by decide +kernel
theorem dX10_drop_27 : decode cX10_drop 27 = .ok (.ireturn, 1) := by decide +kernel
theorem dX10_drop_28 : decode cX10_drop 28 = .ok (.aload_n 0, 1) := by decide +kernel
theorem dX10_drop_29 : decode cX10_drop 29 = .ok (.invokevirtual 113, 3) := by decide +kernel
theorem dX10_drop_32 : decode cX10_drop 32 = .ok (.aload_n 0, 1) := by decide +kernel
theorem dX10_drop_33 : decode cX10_drop 33 = .ok (.iload_n 1, 1) := by decide +kernel
theorem dX10_drop_34 : decode cX10_drop 34 = .ok (.invokevirtual 124, 3) := by decide +kernel
theorem dX10_drop_37 : decode cX10_drop 37 = .ok (.aload_n 0, 1) := by decide +kernel
theorem dX10_drop_38 : decode cX10_drop 38 = .ok (.getfield 7, 3) := by decide +kernel
theorem dX10_drop_41 : decode cX10_drop 41 = .ok (.bipush 7, 2) := by decide +kernel
theorem dX10_drop_43 : decode cX10_drop 43 = .ok (.iaload, 1) := by decide +kernel
theorem dX10_drop_44 : decode cX10_drop 44 = .ok (.ireturn, 1) := by decide +kernel
theorem dX10_isSetting_0 : decode cX10_isSetting 0 = .ok (.iload_n 0, 1) := by decide +kernel
theorem dX10_isSetting_1 : decode cX10_isSetting 1 = .ok (.tableswitch 61 0 4 #[35, 61, 44, 61, 53], 35) := by decide +kernel
theorem dX10_isSetting_36 : decode cX10_isSetting 36 = .ok (.iload_n 1, 1) := by decide +kernel
theorem dX10_isSetting_37 : decode cX10_isSetting 37 = .ok (.iconst 0, 1) := by decide +kernel
theorem dX10_isSetting_38 : decode cX10_isSetting 38 = .ok (.sipush 20000, 3) := by decide +kernel
theorem dX10_isSetting_41 : decode cX10_isSetting 41 = .ok (.invokestatic 45, 3) := by decide +kernel
theorem dX10_isSetting_44 : decode cX10_isSetting 44 = .ok (.ireturn, 1) := by decide +kernel
theorem dX10_isSetting_45 : decode cX10_isSetting 45 = .ok (.iload_n 1, 1) := by decide +kernel
theorem dX10_isSetting_46 : decode cX10_isSetting 46 = .ok (.iconst 0, 1) := by decide +kernel
theorem dX10_isSetting_47 : decode cX10_isSetting 47 = .ok (.sipush 2000, 3) := by decide +kernel
theorem dX10_isSetting_50 : decode cX10_isSetting 50 = .ok (.invokestatic 45, 3) := by decide +kernel
theorem dX10_isSetting_53 : decode cX10_isSetting 53 = .ok (.ireturn, 1) := by decide +kernel
theorem dX10_isSetting_54 : decode cX10_isSetting 54 = .ok (.iload_n 1, 1) := by decide +kernel
theorem dX10_isSetting_55 : decode cX10_isSetting 55 = .ok (.iconst 0, 1) := by decide +kernel
theorem dX10_isSetting_56 : decode cX10_isSetting 56 = .ok (.bipush 50, 2) := by decide +kernel
theorem dX10_isSetting_58 : decode cX10_isSetting 58 = .ok (.invokestatic 45, 3) := by decide +kernel
theorem dX10_isSetting_61 : decode cX10_isSetting 61 = .ok (.ireturn, 1) := by decide +kernel
theorem dX10_isSetting_62 : decode cX10_isSetting 62 = .ok (.iload_n 1, 1) := by decide +kernel
theorem dX10_isSetting_63 : decode cX10_isSetting 63 = .ok (.iconst 0, 1) := by decide +kernel
theorem dX10_isSetting_64 : decode cX10_isSetting 64 = .ok (.bipush 100, 2) := by decide +kernel
theorem dX10_isSetting_66 : decode cX10_isSetting 66 = .ok (.invokestatic 45, 3) := by decide +kernel
theorem dX10_isSetting_69 : decode cX10_isSetting 69 = .ok (.ireturn, 1) := by decide +kernel
theorem dX10_set_0 : decode cX10_set 0 = .ok (.aload_n 0, 1) := by decide +kernel
theorem dX10_set_1 : decode cX10_set 1 = .ok (.iconst 0, 1) := by decide +kernel
theorem dX10_set_2 : decode cX10_set 2 = .ok (.putfield 38, 3) := by decide +kernel
theorem dX10_set_5 : decode cX10_set 5 = .ok (.iload_n 1, 1) := by decide +kernel
theorem dX10_set_6 : decode cX10_set 6 = .ok (.iconst 0, 1) := by decide +kernel
theorem dX10_set_7 : decode cX10_set 7 = .ok (.iconst 4, 1) := by decide +kernel
theorem dX10_set_8 : decode cX10_set 8 = .ok (.invokestatic 45, 3) := by decide +kernel
theorem dX10_set_11 : decode cX10_set 11 = .ok (.ifCond .ne 9, 3) := by decide +kernel
theorem dX10_set_14 : decode cX10_set 14 = .ok (.aload_n 0, 1) := by decide +kernel
theorem dX10_set_15 : decode cX10_set 15 = .ok (.iconst 1, 1) := by decide +kernel
theorem dX10_set_16 : decode cX10_set 16 = .ok (.invokevirtual 110, 3) := by decide +kernel
theorem dX10_set_19 : decode cX10_set 19 = .ok (.ireturn, 1) := by decide +kernel
theorem dX10_set_20 : decode cX10_set 20 = .ok (.iload_n 1, 1) := by decide +kernel
theorem dX10_set_21 : decode cX10_set 21 = .ok (.iload_n 2, 1) := by decide +kernel
theorem dX10_set_22 : decode cX10_set 22 = .ok (.invokestatic 133, 3) := by decide +kernel
theorem dX10_set_25 : decode cX10_set 25 = .ok (.ifCond .ne 9, 3) := by decide +kernel
theorem dX10_set_28 : decode cX10_set 28 = .ok (.aload_n 0, 1) := by decide +kernel
theorem dX10_set_29 : decode cX10_set 29 = .ok (.iconst 2, 1) := by decide +kernel
theorem dX10_set_30 : decode cX10_set 30 = .ok (.invokevirtual 110, 3) := by decide +kernel
theorem dX10_set_33 : decode cX10_set 33 = .ok (.ireturn, 1) := by decide +kernel
theorem dX10_set_34 : decode cX10_set 34 = .ok (.aload_n 0, 1) := by decide +kernel
theorem dX10_set_35 : decode cX10_set 35 = .ok (.invokevirtual 113, 3) := by decide +kernel
theorem dX10_set_38 : decode cX10_set 38 = .ok (.aload_n 0, 1) := by decide +kernel
theorem dX10_set_39 : decode cX10_set 39 = .ok (.getfield 7, 3) := by decide +kernel
theorem dX10_set_42 : decode cX10_set 42 = .ok (.iload_n 1, 1) := by decide +kernel
theorem dX10_set_43 : decode cX10_set 43 = .ok (.iaload, 1) := by decide +kernel
theorem dX10_set_44 : decode cX10_set 44 = .ok (.istore_n 3, 1) := by decide +kernel
theorem dX10_set_45 : decode cX10_set 45 = .ok (.aload_n 0, 1) := by decide +kernel
theorem dX10_set_46 : decode cX10_set 46 = .ok (.getfield 7, 3) := by decide +kernel
theorem dX10_set_49 : decode cX10_set 49 = .ok (.iload_n 1, 1) := by decide +kernel
theorem dX10_set_50 : decode cX10_set 50 = .ok (.iload_n 2, 1) := by decide +kernel
theorem dX10_set_51 : decode cX10_set 51 = .ok (.iastore, 1) := by decide +kernel
theorem dX10_set_52 : decode cX10_set 52 = .ok (.iload_n 3, 1) := by decide +kernel
theorem dX10_set_53 : decode cX10_set 53 = .ok (.ireturn, 1) := by decide +kernel
theorem dX10_append_0 : decode cX10_append 0 = .ok (.aload_n 0, 1) := by decide +kernel
theorem dX10_append_1 : decode cX10_append 1 = .ok (.iconst 0, 1) := by decide +kernel
theorem dX10_append_2 : decode cX10_append 2 = .ok (.putfield 38, 3) := by decide +kernel
theorem dX10_append_5 : decode cX10_append 5 = .ok (.iload_n 1, 1) := by decide +kernel
theorem dX10_append_6 : decode cX10_append 6 = .ok (.bipush 33, 2) := by decide +kernel
theorem dX10_append_8 : decode cX10_append 8 = .ok (.bipush 126, 2) := by decide +kernel
theorem dX10_append_10 : decode cX10_append 10 = .ok (.invokestatic 45, 3) := by decide +kernel
theorem dX10_append_13 : decode cX10_append 13 = .ok (.ifCond .ne 9, 3) := by decide +kernel
theorem dX10_append_16 : decode cX10_append 16 = .ok (.aload_n 0, 1) := by decide +kernel
theorem dX10_append_17 : decode cX10_append 17 = .ok (.iconst 1, 1) := by decide +kernel
theorem dX10_append_18 : decode cX10_append 18 = .ok (.invokevirtual 110, 3) := by decide +kernel
theorem dX10_append_21 : decode cX10_append 21 = .ok (.ireturn, 1) := by decide +kernel
theorem dX10_append_22 : decode cX10_append 22 = .ok (.aload_n 0, 1) := by decide +kernel
theorem dX10_append_23 : decode cX10_append 23 = .ok (.getfield 137, 3) := by decide +kernel
theorem dX10_append_26 : decode cX10_append 26 = .ok (.bipush 50, 2) := by decide +kernel
theorem dX10_append_28 : decode cX10_append 28 = .ok (.if_icmp .ne 9, 3) := by decide +kernel
theorem dX10_append_31 : decode cX10_append 31 = .ok (.aload_n 0, 1) := by decide +kernel
theorem dX10_append_32 : decode cX10_append 32 = .ok (.iconst 2, 1) := by decide +kernel
theorem dX10_append_33 : decode cX10_append 33 = .ok (.invokevirtual 110, 3) := by decide +kernel
theorem dX10_append_36 : decode cX10_append 36 = .ok (.ireturn, 1) := by decide +kernel
theorem dX10_append_37 : decode cX10_append 37 = .ok (.aload_n 0, 1) := by decide +kernel
theorem dX10_append_38 : decode cX10_append 38 = .ok (.getfield 23, 3) := by decide +kernel
theorem dX10_append_41 : decode cX10_append 41 = .ok (.aload_n 0, 1) := by decide +kernel
theorem dX10_append_42 : decode cX10_append 42 = .ok (.getfield 137, 3) := by decide +kernel
theorem dX10_append_45 : decode cX10_append 45 = .ok (.iload_n 1, 1) := by decide +kernel
theorem dX10_append_46 : decode cX10_append 46 = .ok (.iastore, 1) := by decide +kernel
theorem dX10_append_47 : decode cX10_append 47 = .ok (.aload_n 0, 1) := by decide +kernel
theorem dX10_append_48 : decode cX10_append 48 = .ok (.dup, 1) := by decide +kernel
theorem dX10_append_49 : decode cX10_append 49 = .ok (.getfield 137, 3) := by decide +kernel
theorem dX10_append_52 : decode cX10_append 52 = .ok (.iconst 1, 1) := by decide +kernel
theorem dX10_append_53 : decode cX10_append 53 = .ok (.iadd, 1) := by decide +kernel
theorem dX10_append_54 : decode cX10_append 54 = .ok (.putfield 137, 3) := by decide +kernel
theorem dX10_append_57 : decode cX10_append 57 = .ok (.aload_n 0, 1) := by decide +kernel
theorem dX10_append_58 : decode cX10_append 58 = .ok (.getfield 137, 3) := by decide +kernel
theorem dX10_append_61 : decode cX10_append 61 = .ok (.ireturn, 1) := by decide +kernel
theorem dX10_clearBuffer_0 : decode cX10_clearBuffer 0 = .ok (.aload_n 0, 1) := by decide +kernel
theorem dX10_clearBuffer_1 : decode cX10_clearBuffer 1 = .ok (.iconst 0, 1) := by decide +kernel
theorem dX10_clearBuffer_2 : decode cX10_clearBuffer 2 = .ok (.putfield 38, 3) := by decide +kernel
theorem dX10_clearBuffer_5 : decode cX10_clearBuffer 5 = .ok (.aload_n 0, 1) := by decide +kernel
theorem dX10_clearBuffer_6 : decode cX10_clearBuffer 6 = .ok (.getfield 137, 3) := by decide +kernel
theorem dX10_clearBuffer_9 : decode cX10_clearBuffer 9 = .ok (.istore_n 1, 1) := by decide +kernel
theorem dX10_clearBuffer_10 : decode cX10_clearBuffer 10 = .ok (.aload_n 0, 1) := by decide +kernel
theorem dX10_clearBuffer_11 : decode cX10_clearBuffer 11 = .ok (.iconst 0, 1) := by decide +kernel
theorem dX10_clearBuffer_12 : decode cX10_clearBuffer 12 = .ok (.putfield 137, 3) := by decide +kernel
theorem dX10_clearBuffer_15 : decode cX10_clearBuffer 15 = .ok (.iload_n 1, 1) := by decide +kernel
theorem dX10_clearBuffer_16 : decode cX10_clearBuffer 16 = .ok (.ireturn, 1) := by decide +kernel
theorem dX10_sign_0 : decode cX10_sign 0 = .ok (.aload_n 0, 1) := by decide +kernel
theorem dX10_sign_1 : decode cX10_sign 1 = .ok (.getfield 140, 3) := by decide +kernel
theorem dX10_sign_4 : decode cX10_sign 4 = .ok (.aload_n 0, 1) := by decide +kernel
theorem dX10_sign_5 : decode cX10_sign 5 = .ok (.getfield 137, 3) := by decide +kernel
theorem dX10_sign_8 : decode cX10_sign 8 = .ok (.if_icmp .ge 15, 3) := by decide +kernel
theorem dX10_sign_11 : decode cX10_sign 11 = .ok (.aload_n 0, 1) := by decide +kernel
theorem dX10_sign_12 : decode cX10_sign 12 = .ok (.getfield 23, 3) := by decide +kernel
theorem dX10_sign_15 : decode cX10_sign 15 = .ok (.aload_n 0, 1) := by decide +kernel
theorem dX10_sign_16 : decode cX10_sign 16 = .ok (.getfield 140, 3) := by decide +kernel
theorem dX10_sign_19 : decode cX10_sign 19 = .ok (.iaload, 1) := by decide +kernel
theorem dX10_sign_20 : decode cX10_sign 20 = .ok (.goto 4, 3) := by decide +kernel
theorem dX10_sign_23 : decode cX10_sign 23 = .ok (.iconst 0, 1) := by decide +kernel
theorem dX10_sign_24 : decode cX10_sign 24 = .ok (.ireturn, 1) := by decide +kernel
theorem dX10_readsHead_0 : decode cX10_readsHead 0 = .ok (.aload_n 0, 1) := by decide +kernel
theorem dX10_readsHead_1 : decode cX10_readsHead 1 = .ok (.aload_n 0, 1) := by decide +kernel
theorem dX10_readsHead_2 : decode cX10_readsHead 2 = .ok (.invokevirtual 143, 3) := by decide +kernel
theorem dX10_readsHead_5 : decode cX10_readsHead 5 = .ok (.bipush 48, 2) := by decide +kernel
theorem dX10_readsHead_7 : decode cX10_readsHead 7 = .ok (.bipush 57, 2) := by decide +kernel
theorem dX10_readsHead_9 : decode cX10_readsHead 9 = .ok (.invokestatic 45, 3) := by decide +kernel
theorem dX10_readsHead_12 : decode cX10_readsHead 12 = .ok (.putfield 146, 3) := by decide +kernel
theorem dX10_readsHead_15 : decode cX10_readsHead 15 = .ok (.aload_n 0, 1) := by decide +kernel
theorem dX10_readsHead_16 : decode cX10_readsHead 16 = .ok (.invokevirtual 143, 3) := by decide +kernel
theorem dX10_readsHead_19 : decode cX10_readsHead 19 = .ok (.bipush 48, 2) := by decide +kernel
theorem dX10_readsHead_21 : decode cX10_readsHead 21 = .ok (.isub, 1) := by decide +kernel
theorem dX10_readsHead_22 : decode cX10_readsHead 22 = .ok (.istore_n 1, 1) := by decide +kernel
theorem dX10_readsHead_23 : decode cX10_readsHead 23 = .ok (.aload_n 0, 1) := by decide +kernel
theorem dX10_readsHead_24 : decode cX10_readsHead 24 = .ok (.dup, 1) := by decide +kernel
theorem dX10_readsHead_25 : decode cX10_readsHead 25 = .ok (.getfield 140, 3) := by decide +kernel
theorem dX10_readsHead_28 : decode cX10_readsHead 28 = .ok (.aload_n 0, 1) := by decide +kernel
theorem dX10_readsHead_29 : decode cX10_readsHead 29 = .ok (.getfield 146, 3) := by decide +kernel
theorem dX10_readsHead_32 : decode cX10_readsHead 32 = .ok (.ifCond .eq 7, 3) := by decide +kernel
theorem dX10_readsHead_35 : decode cX10_readsHead 35 = .ok (.iconst 1, 1) := by decide +kernel
theorem dX10_readsHead_36 : decode cX10_readsHead 36 = .ok (.goto 4, 3) := by decide +kernel
theorem dX10_readsHead_39 : decode cX10_readsHead 39 = .ok (.iconst 0, 1) := by decide +kernel
theorem dX10_readsHead_40 : decode cX10_readsHead 40 = .ok (.iadd, 1) := by decide +kernel
theorem dX10_readsHead_41 : decode cX10_readsHead 41 = .ok (.putfield 140, 3) := by decide +kernel
theorem dX10_readsHead_44 : decode cX10_readsHead 44 = .ok (.aload_n 0, 1) := by decide +kernel
theorem dX10_readsHead_45 : decode cX10_readsHead 45 = .ok (.getfield 146, 3) := by decide +kernel
theorem dX10_readsHead_48 : decode cX10_readsHead 48 = .ok (.ifCond .eq 64, 3) := by decide +kernel
theorem dX10_readsHead_51 : decode cX10_readsHead 51 = .ok (.iload_n 1, 1) := by decide +kernel
theorem dX10_readsHead_52 : decode cX10_readsHead 52 = .ok (.ifCond .le 60, 3) := by decide +kernel
theorem dX10_readsHead_55 : decode cX10_readsHead 55 = .ok (.aload_n 0, 1) := by decide +kernel
theorem dX10_readsHead_56 : decode cX10_readsHead 56 = .ok (.invokevirtual 143, 3) := by decide +kernel
theorem dX10_readsHead_59 : decode cX10_readsHead 59 = .ok (.bipush 48, 2) := by decide +kernel
theorem dX10_readsHead_61 : decode cX10_readsHead 61 = .ok (.bipush 57, 2) := by decide +kernel
theorem dX10_readsHead_63 : decode cX10_readsHead 63 = .ok (.invokestatic 45, 3) := by decide +kernel
theorem dX10_readsHead_66 : decode cX10_readsHead 66 = .ok (.ifCond .eq 46, 3) := by decide +kernel
theorem dX10_readsHead_69 : decode cX10_readsHead 69 = .ok (.bipush 10, 2) := by decide +kernel
theorem dX10_readsHead_71 : decode cX10_readsHead 71 = .ok (.iload_n 1, 1) := by decide +kernel
theorem dX10_readsHead_72 : decode cX10_readsHead 72 = .ok (.imul, 1) := by decide +kernel
theorem dX10_readsHead_73 : decode cX10_readsHead 73 = .ok (.aload_n 0, 1) := by decide +kernel
theorem dX10_readsHead_74 : decode cX10_readsHead 74 = .ok (.invokevirtual 143, 3) := by decide +kernel
theorem dX10_readsHead_77 : decode cX10_readsHead 77 = .ok (.iadd, 1) := by decide +kernel
theorem dX10_readsHead_78 : decode cX10_readsHead 78 = .ok (.bipush 48, 2) := by decide +kernel
theorem dX10_readsHead_80 : decode cX10_readsHead 80 = .ok (.isub, 1) := by decide +kernel
theorem dX10_readsHead_81 : decode cX10_readsHead 81 = .ok (.ldc 150, 2) := by decide +kernel
theorem dX10_readsHead_83 : decode cX10_readsHead 83 = .ok (.if_icmp .gt 29, 3) := by decide +kernel
theorem dX10_readsHead_86 : decode cX10_readsHead 86 = .ok (.bipush 10, 2) := by decide +kernel
theorem dX10_readsHead_88 : decode cX10_readsHead 88 = .ok (.iload_n 1, 1) := by decide +kernel
theorem dX10_readsHead_89 : decode cX10_readsHead 89 = .ok (.imul, 1) := by decide +kernel
theorem dX10_readsHead_90 : decode cX10_readsHead 90 = .ok (.aload_n 0, 1) := by decide +kernel
theorem dX10_readsHead_91 : decode cX10_readsHead 91 = .ok (.invokevirtual 143, 3) := by decide +kernel
theorem dX10_readsHead_94 : decode cX10_readsHead 94 = .ok (.iadd, 1) := by decide +kernel
theorem dX10_readsHead_95 : decode cX10_readsHead 95 = .ok (.bipush 48, 2) := by decide +kernel
theorem dX10_readsHead_97 : decode cX10_readsHead 97 = .ok (.isub, 1) := by decide +kernel
theorem dX10_readsHead_98 : decode cX10_readsHead 98 = .ok (.istore_n 1, 1) := by decide +kernel
theorem dX10_readsHead_99 : decode cX10_readsHead 99 = .ok (.aload_n 0, 1) := by decide +kernel
theorem dX10_readsHead_100 : decode cX10_readsHead 100 = .ok (.dup, 1) := by decide +kernel
theorem dX10_readsHead_101 : decode cX10_readsHead 101 = .ok (.getfield 140, 3) := by decide +kernel
theorem dX10_readsHead_104 : decode cX10_readsHead 104 = .ok (.iconst 1, 1) := by decide +kernel
theorem dX10_readsHead_105 : decode cX10_readsHead 105 = .ok (.iadd, 1) := by decide +kernel
theorem dX10_readsHead_106 : decode cX10_readsHead 106 = .ok (.putfield 140, 3) := by decide +kernel
theorem dX10_readsHead_109 : decode cX10_readsHead 109 = .ok (.goto (-65), 3) := by decide +kernel
theorem dX10_readsHead_112 : decode cX10_readsHead 112 = .ok (.aload_n 0, 1) := by decide +kernel
theorem dX10_readsHead_113 : decode cX10_readsHead 113 = .ok (.getfield 35, 3) := by decide +kernel
theorem dX10_readsHead_116 : decode cX10_readsHead 116 = .ok (.aload_n 0, 1) := by decide +kernel
theorem dX10_readsHead_117 : decode cX10_readsHead 117 = .ok (.getfield 151, 3) := by decide +kernel
theorem dX10_readsHead_120 : decode cX10_readsHead 120 = .ok (.iload_n 1, 1) := by decide +kernel
theorem dX10_readsHead_121 : decode cX10_readsHead 121 = .ok (.iastore, 1) := by decide +kernel
theorem dX10_readsHead_122 : decode cX10_readsHead 122 = .ok (.aload_n 0, 1) := by decide +kernel
theorem dX10_readsHead_123 : decode cX10_readsHead 123 = .ok (.dup, 1) := by decide +kernel
theorem dX10_readsHead_124 : decode cX10_readsHead 124 = .ok (.getfield 151, 3) := by decide +kernel
theorem dX10_readsHead_127 : decode cX10_readsHead 127 = .ok (.aload_n 0, 1) := by decide +kernel
theorem dX10_readsHead_128 : decode cX10_readsHead 128 = .ok (.getfield 146, 3) := by decide +kernel
theorem dX10_readsHead_131 : decode cX10_readsHead 131 = .ok (.ifCond .eq 7, 3) := by decide +kernel
theorem dX10_readsHead_134 : decode cX10_readsHead 134 = .ok (.iconst 1, 1) := by decide +kernel
theorem dX10_readsHead_135 : decode cX10_readsHead 135 = .ok (.goto 4, 3) := by decide +kernel
theorem dX10_readsHead_138 : decode cX10_readsHead 138 = .ok (.iconst 0, 1) := by decide +kernel
theorem dX10_readsHead_139 : decode cX10_readsHead 139 = .ok (.iadd, 1) := by decide +kernel
theorem dX10_readsHead_140 : decode cX10_readsHead 140 = .ok (.putfield 151, 3) := by decide +kernel
theorem dX10_readsHead_143 : decode cX10_readsHead 143 = .ok (.return_, 1) := by decide +kernel
theorem dX10_readsAll_0 : decode cX10_readsAll 0 = .ok (.aload_n 0, 1) := by decide +kernel
theorem dX10_readsAll_1 : decode cX10_readsAll 1 = .ok (.iconst 0, 1) := by decide +kernel
theorem dX10_readsAll_2 : decode cX10_readsAll 2 = .ok (.putfield 140, 3) := by decide +kernel
theorem dX10_readsAll_5 : decode cX10_readsAll 5 = .ok (.aload_n 0, 1) := by decide +kernel
theorem dX10_readsAll_6 : decode cX10_readsAll 6 = .ok (.iconst 0, 1) := by decide +kernel
theorem dX10_readsAll_7 : decode cX10_readsAll 7 = .ok (.putfield 151, 3) := by decide +kernel
theorem dX10_readsAll_10 : decode cX10_readsAll 10 = .ok (.aload_n 0, 1) := by decide +kernel
theorem dX10_readsAll_11 : decode cX10_readsAll 11 = .ok (.invokevirtual 154, 3) := by decide +kernel
theorem dX10_readsAll_14 : decode cX10_readsAll 14 = .ok (.aload_n 0, 1) := by decide +kernel
theorem dX10_readsAll_15 : decode cX10_readsAll 15 = .ok (.getfield 146, 3) := by decide +kernel
theorem dX10_readsAll_18 : decode cX10_readsAll 18 = .ok (.ifCond .eq 76, 3) := by decide +kernel
theorem dX10_readsAll_21 : decode cX10_readsAll 21 = .ok (.aload_n 0, 1) := by decide +kernel
theorem dX10_readsAll_22 : decode cX10_readsAll 22 = .ok (.getfield 140, 3) := by decide +kernel
theorem dX10_readsAll_25 : decode cX10_readsAll 25 = .ok (.aload_n 0, 1) := by decide +kernel
theorem dX10_readsAll_26 : decode cX10_readsAll 26 = .ok (.getfield 137, 3) := by decide +kernel
theorem dX10_readsAll_29 : decode cX10_readsAll 29 = .ok (.if_icmp .ge 65, 3) := by decide +kernel
theorem dX10_readsAll_32 : decode cX10_readsAll 32 = .ok (.aload_n 0, 1) := by decide +kernel
theorem dX10_readsAll_33 : decode cX10_readsAll 33 = .ok (.aload_n 0, 1) := by decide +kernel
theorem dX10_readsAll_34 : decode cX10_readsAll 34 = .ok (.invokevirtual 143, 3) := by decide +kernel
theorem dX10_readsAll_37 : decode cX10_readsAll 37 = .ok (.bipush 44, 2) := by decide +kernel
theorem dX10_readsAll_39 : decode cX10_readsAll 39 = .ok (.if_icmp .ne 16, 3) := by decide +kernel
theorem dX10_readsAll_42 : decode cX10_readsAll 42 = .ok (.aload_n 0, 1) := by decide +kernel
theorem dX10_readsAll_43 : decode cX10_readsAll 43 = .ok (.getfield 151, 3) := by decide +kernel
theorem dX10_readsAll_46 : decode cX10_readsAll 46 = .ok (.bipush 8, 2) := by decide +kernel
theorem dX10_readsAll_48 : decode cX10_readsAll 48 = .ok (.if_icmp .ge 7, 3) := by decide +kernel
theorem dX10_readsAll_51 : decode cX10_readsAll 51 = .ok (.iconst 1, 1) := by decide +kernel
theorem dX10_readsAll_52 : decode cX10_readsAll 52 = .ok (.goto 4, 3) := by decide +kernel
theorem dX10_readsAll_55 : decode cX10_readsAll 55 = .ok (.iconst 0, 1) := by decide +kernel
theorem dX10_readsAll_56 : decode cX10_readsAll 56 = .ok (.putfield 146, 3) := by decide +kernel
theorem dX10_readsAll_59 : decode cX10_readsAll 59 = .ok (.aload_n 0, 1) := by decide +kernel
theorem dX10_readsAll_60 : decode cX10_readsAll 60 = .ok (.dup, 1) := by decide +kernel
theorem dX10_readsAll_61 : decode cX10_readsAll 61 = .ok (.getfield 140, 3) := by decide +kernel
theorem dX10_readsAll_64 : decode cX10_readsAll 64 = .ok (.aload_n 0, 1) := by decide +kernel
theorem dX10_readsAll_65 : decode cX10_readsAll 65 = .ok (.getfield 146, 3) := by decide +kernel
theorem dX10_readsAll_68 : decode cX10_readsAll 68 = .ok (.ifCond .eq 7, 3) := by decide +kernel
theorem dX10_readsAll_71 : decode cX10_readsAll 71 = .ok (.iconst 1, 1) := by decide +kernel
theorem dX10_readsAll_72 : decode cX10_readsAll 72 = .ok (.goto 4, 3) := by decide +kernel
theorem dX10_readsAll_75 : decode cX10_readsAll 75 = .ok (.iconst 0, 1) := by decide +kernel
theorem dX10_readsAll_76 : decode cX10_readsAll 76 = .ok (.iadd, 1) := by decide +kernel
theorem dX10_readsAll_77 : decode cX10_readsAll 77 = .ok (.putfield 140, 3) := by decide +kernel
theorem dX10_readsAll_80 : decode cX10_readsAll 80 = .ok (.aload_n 0, 1) := by decide +kernel
theorem dX10_readsAll_81 : decode cX10_readsAll 81 = .ok (.getfield 146, 3) := by decide +kernel
theorem dX10_readsAll_84 : decode cX10_readsAll 84 = .ok (.ifCond .eq (-70), 3) := by decide +kernel
theorem dX10_readsAll_87 : decode cX10_readsAll 87 = .ok (.aload_n 0, 1) := by decide +kernel
theorem dX10_readsAll_88 : decode cX10_readsAll 88 = .ok (.invokevirtual 154, 3) := by decide +kernel
theorem dX10_readsAll_91 : decode cX10_readsAll 91 = .ok (.goto (-77), 3) := by decide +kernel
theorem dX10_readsAll_94 : decode cX10_readsAll 94 = .ok (.return_, 1) := by decide +kernel
theorem dX10_firstError_0 : decode cX10_firstError 0 = .ok (.aload_n 0, 1) := by decide +kernel
theorem dX10_firstError_1 : decode cX10_firstError 1 = .ok (.iconst 0, 1) := by decide +kernel
theorem dX10_firstError_2 : decode cX10_firstError 2 = .ok (.putfield 38, 3) := by decide +kernel
theorem dX10_firstError_5 : decode cX10_firstError 5 = .ok (.aload_n 0, 1) := by decide +kernel
theorem dX10_firstError_6 : decode cX10_firstError 6 = .ok (.invokevirtual 157, 3) := by decide +kernel
theorem dX10_firstError_9 : decode cX10_firstError 9 = .ok (.aload_n 0, 1) := by decide +kernel
theorem dX10_firstError_10 : decode cX10_firstError 10 = .ok (.getfield 140, 3) := by decide +kernel
theorem dX10_firstError_13 : decode cX10_firstError 13 = .ok (.ireturn, 1) := by decide +kernel
theorem dX10_load_0 : decode cX10_load 0 = .ok (.aload_n 0, 1) := by decide +kernel
theorem dX10_load_1 : decode cX10_load 1 = .ok (.iconst 0, 1) := by decide +kernel
theorem dX10_load_2 : decode cX10_load 2 = .ok (.putfield 38, 3) := by decide +kernel
theorem dX10_load_5 : decode cX10_load 5 = .ok (.aload_n 0, 1) := by decide +kernel
theorem dX10_load_6 : decode cX10_load 6 = .ok (.invokevirtual 157, 3) := by decide +kernel
theorem dX10_load_9 : decode cX10_load 9 = .ok (.aload_n 0, 1) := by decide +kernel
theorem dX10_load_10 : decode cX10_load 10 = .ok (.getfield 146, 3) := by decide +kernel
theorem dX10_load_13 : decode cX10_load 13 = .ok (.ifCond .ne 9, 3) := by decide +kernel
theorem dX10_load_16 : decode cX10_load 16 = .ok (.aload_n 0, 1) := by decide +kernel
theorem dX10_load_17 : decode cX10_load 17 = .ok (.iconst 1, 1) := by decide +kernel
theorem dX10_load_18 : decode cX10_load 18 = .ok (.invokevirtual 110, 3) := by decide +kernel
theorem dX10_load_21 : decode cX10_load 21 = .ok (.ireturn, 1) := by decide +kernel
theorem dX10_load_22 : decode cX10_load 22 = .ok (.aload_n 0, 1) := by decide +kernel
theorem dX10_load_23 : decode cX10_load 23 = .ok (.invokevirtual 113, 3) := by decide +kernel
theorem dX10_load_26 : decode cX10_load 26 = .ok (.aload_n 0, 1) := by decide +kernel
theorem dX10_load_27 : decode cX10_load 27 = .ok (.iconst 0, 1) := by decide +kernel
theorem dX10_load_28 : decode cX10_load 28 = .ok (.putfield 137, 3) := by decide +kernel
theorem dX10_load_31 : decode cX10_load 31 = .ok (.aload_n 0, 1) := by decide +kernel
theorem dX10_load_32 : decode cX10_load 32 = .ok (.aload_n 0, 1) := by decide +kernel
theorem dX10_load_33 : decode cX10_load 33 = .ok (.getfield 151, 3) := by decide +kernel
theorem dX10_load_36 : decode cX10_load 36 = .ok (.invokevirtual 127, 3) := by decide +kernel
theorem dX10_load_39 : decode cX10_load 39 = .ok (.istore_n 1, 1) := by decide +kernel
theorem dX10_load_40 : decode cX10_load 40 = .ok (.iconst 0, 1) := by decide +kernel
theorem dX10_load_41 : decode cX10_load 41 = .ok (.istore_n 2, 1) := by decide +kernel
theorem dX10_load_42 : decode cX10_load 42 = .ok (.iload_n 2, 1) := by decide +kernel
theorem dX10_load_43 : decode cX10_load 43 = .ok (.aload_n 0, 1) := by decide +kernel
theorem dX10_load_44 : decode cX10_load 44 = .ok (.getfield 151, 3) := by decide +kernel
theorem dX10_load_47 : decode cX10_load 47 = .ok (.if_icmp .ge 23, 3) := by decide +kernel
theorem dX10_load_50 : decode cX10_load 50 = .ok (.aload_n 0, 1) := by decide +kernel
theorem dX10_load_51 : decode cX10_load 51 = .ok (.getfield 7, 3) := by decide +kernel
theorem dX10_load_54 : decode cX10_load 54 = .ok (.iload_n 1, 1) := by decide +kernel
theorem dX10_load_55 : decode cX10_load 55 = .ok (.iload_n 2, 1) := by decide +kernel
theorem dX10_load_56 : decode cX10_load 56 = .ok (.iadd, 1) := by decide +kernel
theorem dX10_load_57 : decode cX10_load 57 = .ok (.aload_n 0, 1) := by decide +kernel
theorem dX10_load_58 : decode cX10_load 58 = .ok (.getfield 35, 3) := by decide +kernel
theorem dX10_load_61 : decode cX10_load 61 = .ok (.iload_n 2, 1) := by decide +kernel
theorem dX10_load_62 : decode cX10_load 62 = .ok (.iaload, 1) := by decide +kernel
theorem dX10_load_63 : decode cX10_load 63 = .ok (.iastore, 1) := by decide +kernel
theorem dX10_load_64 : decode cX10_load 64 = .ok (.iinc 2 1, 3) := by decide +kernel
theorem dX10_load_67 : decode cX10_load 67 = .ok (.goto (-25), 3) := by decide +kernel
theorem dX10_load_70 : decode cX10_load 70 = .ok (.aload_n 0, 1) := by decide +kernel
theorem dX10_load_71 : decode cX10_load 71 = .ok (.getfield 151, 3) := by decide +kernel
theorem dX10_load_74 : decode cX10_load 74 = .ok (.ireturn, 1) := by decide +kernel
theorem dX10_keep_0 : decode cX10_keep 0 = .ok (.aload_n 0, 1) := by decide +kernel
theorem dX10_keep_1 : decode cX10_keep 1 = .ok (.iconst 0, 1) := by decide +kernel
theorem dX10_keep_2 : decode cX10_keep 2 = .ok (.putfield 38, 3) := by decide +kernel
theorem dX10_keep_5 : decode cX10_keep 5 = .ok (.iload_n 1, 1) := by decide +kernel
theorem dX10_keep_6 : decode cX10_keep 6 = .ok (.iconst 0, 1) := by decide +kernel
theorem dX10_keep_7 : decode cX10_keep 7 = .ok (.iconst 1, 1) := by decide +kernel
theorem dX10_keep_8 : decode cX10_keep 8 = .ok (.invokestatic 45, 3) := by decide +kernel
theorem dX10_keep_11 : decode cX10_keep 11 = .ok (.ifCond .ne 9, 3) := by decide +kernel
theorem dX10_keep_14 : decode cX10_keep 14 = .ok (.aload_n 0, 1) := by decide +kernel
theorem dX10_keep_15 : decode cX10_keep 15 = .ok (.iconst 1, 1) := by decide +kernel
theorem dX10_keep_16 : decode cX10_keep 16 = .ok (.invokevirtual 110, 3) := by decide +kernel
theorem dX10_keep_19 : decode cX10_keep 19 = .ok (.ireturn, 1) := by decide +kernel
theorem dX10_keep_20 : decode cX10_keep 20 = .ok (.iconst 0, 1) := by decide +kernel
theorem dX10_keep_21 : decode cX10_keep 21 = .ok (.istore_n 2, 1) := by decide +kernel
theorem dX10_keep_22 : decode cX10_keep 22 = .ok (.iload_n 2, 1) := by decide +kernel
theorem dX10_keep_23 : decode cX10_keep 23 = .ok (.sipush 162, 3) := by decide +kernel
theorem dX10_keep_26 : decode cX10_keep 26 = .ok (.if_icmp .ge 27, 3) := by decide +kernel
theorem dX10_keep_29 : decode cX10_keep 29 = .ok (.aload_n 0, 1) := by decide +kernel
theorem dX10_keep_30 : decode cX10_keep 30 = .ok (.getfield 16, 3) := by decide +kernel
theorem dX10_keep_33 : decode cX10_keep 33 = .ok (.sipush 162, 3) := by decide +kernel
theorem dX10_keep_36 : decode cX10_keep 36 = .ok (.iload_n 1, 1) := by decide +kernel
theorem dX10_keep_37 : decode cX10_keep 37 = .ok (.imul, 1) := by decide +kernel
theorem dX10_keep_38 : decode cX10_keep 38 = .ok (.iload_n 2, 1) := by decide +kernel
theorem dX10_keep_39 : decode cX10_keep 39 = .ok (.iadd, 1) := by decide +kernel
theorem dX10_keep_40 : decode cX10_keep 40 = .ok (.aload_n 0, 1) := by decide +kernel
theorem dX10_keep_41 : decode cX10_keep 41 = .ok (.getfield 7, 3) := by decide +kernel
theorem dX10_keep_44 : decode cX10_keep 44 = .ok (.iload_n 2, 1) := by decide +kernel
theorem dX10_keep_45 : decode cX10_keep 45 = .ok (.iaload, 1) := by decide +kernel
theorem dX10_keep_46 : decode cX10_keep 46 = .ok (.iastore, 1) := by decide +kernel
theorem dX10_keep_47 : decode cX10_keep 47 = .ok (.iinc 2 1, 3) := by decide +kernel
theorem dX10_keep_50 : decode cX10_keep 50 = .ok (.goto (-28), 3) := by decide +kernel
theorem dX10_keep_53 : decode cX10_keep 53 = .ok (.aload_n 0, 1) := by decide +kernel
theorem dX10_keep_54 : decode cX10_keep 54 = .ok (.getfield 19, 3) := by decide +kernel
theorem dX10_keep_57 : decode cX10_keep 57 = .ok (.iload_n 1, 1) := by decide +kernel
theorem dX10_keep_58 : decode cX10_keep 58 = .ok (.iconst 1, 1) := by decide +kernel
theorem dX10_keep_59 : decode cX10_keep 59 = .ok (.bastore, 1) := by decide +kernel
theorem dX10_keep_60 : decode cX10_keep 60 = .ok (.aload_n 0, 1) := by decide +kernel
theorem dX10_keep_61 : decode cX10_keep 61 = .ok (.getfield 7, 3) := by decide +kernel
theorem dX10_keep_64 : decode cX10_keep 64 = .ok (.bipush 7, 2) := by decide +kernel
theorem dX10_keep_66 : decode cX10_keep 66 = .ok (.iaload, 1) := by decide +kernel
theorem dX10_keep_67 : decode cX10_keep 67 = .ok (.ireturn, 1) := by decide +kernel
theorem dX10_goBack_0 : decode cX10_goBack 0 = .ok (.aload_n 0, 1) := by decide +kernel
theorem dX10_goBack_1 : decode cX10_goBack 1 = .ok (.iconst 0, 1) := by decide +kernel
theorem dX10_goBack_2 : decode cX10_goBack 2 = .ok (.putfield 38, 3) := by decide +kernel
theorem dX10_goBack_5 : decode cX10_goBack 5 = .ok (.iload_n 1, 1) := by decide +kernel
theorem dX10_goBack_6 : decode cX10_goBack 6 = .ok (.iconst 0, 1) := by decide +kernel
theorem dX10_goBack_7 : decode cX10_goBack 7 = .ok (.iconst 1, 1) := by decide +kernel
theorem dX10_goBack_8 : decode cX10_goBack 8 = .ok (.invokestatic 45, 3) := by decide +kernel
theorem dX10_goBack_11 : decode cX10_goBack 11 = .ok (.ifCond .ne 9, 3) := by decide +kernel
theorem dX10_goBack_14 : decode cX10_goBack 14 = .ok (.aload_n 0, 1) := by decide +kernel
theorem dX10_goBack_15 : decode cX10_goBack 15 = .ok (.iconst 1, 1) := by decide +kernel
theorem dX10_goBack_16 : decode cX10_goBack 16 = .ok (.invokevirtual 110, 3) := by decide +kernel
theorem dX10_goBack_19 : decode cX10_goBack 19 = .ok (.ireturn, 1) := by decide +kernel
theorem dX10_goBack_20 : decode cX10_goBack 20 = .ok (.aload_n 0, 1) := by decide +kernel
theorem dX10_goBack_21 : decode cX10_goBack 21 = .ok (.getfield 19, 3) := by decide +kernel
theorem dX10_goBack_24 : decode cX10_goBack 24 = .ok (.iload_n 1, 1) := by decide +kernel
theorem dX10_goBack_25 : decode cX10_goBack 25 = .ok (.baload, 1) := by decide +kernel
theorem dX10_goBack_26 : decode cX10_goBack 26 = .ok (.ifCond .ne 9, 3) := by decide +kernel
theorem dX10_goBack_29 : decode cX10_goBack 29 = .ok (.aload_n 0, 1) := by decide +kernel
theorem dX10_goBack_30 : decode cX10_goBack 30 = .ok (.iconst 2, 1) := by decide +kernel
theorem dX10_goBack_31 : decode cX10_goBack 31 = .ok (.invokevirtual 110, 3) := by decide +kernel
theorem dX10_goBack_34 : decode cX10_goBack 34 = .ok (.ireturn, 1) := by decide +kernel
theorem dX10_goBack_35 : decode cX10_goBack 35 = .ok (.aload_n 0, 1) := by decide +kernel
theorem dX10_goBack_36 : decode cX10_goBack 36 = .ok (.invokevirtual 113, 3) := by decide +kernel
theorem dX10_goBack_39 : decode cX10_goBack 39 = .ok (.iconst 0, 1) := by decide +kernel
theorem dX10_goBack_40 : decode cX10_goBack 40 = .ok (.istore_n 2, 1) := by decide +kernel
theorem dX10_goBack_41 : decode cX10_goBack 41 = .ok (.iload_n 2, 1) := by decide +kernel
theorem dX10_goBack_42 : decode cX10_goBack 42 = .ok (.sipush 162, 3) := by decide +kernel
theorem dX10_goBack_45 : decode cX10_goBack 45 = .ok (.if_icmp .ge 27, 3) := by decide +kernel
theorem dX10_goBack_48 : decode cX10_goBack 48 = .ok (.aload_n 0, 1) := by decide +kernel
theorem dX10_goBack_49 : decode cX10_goBack 49 = .ok (.getfield 7, 3) := by decide +kernel
theorem dX10_goBack_52 : decode cX10_goBack 52 = .ok (.iload_n 2, 1) := by decide +kernel
theorem dX10_goBack_53 : decode cX10_goBack 53 = .ok (.aload_n 0, 1) := by decide +kernel
theorem dX10_goBack_54 : decode cX10_goBack 54 = .ok (.getfield 16, 3) := by decide +kernel
theorem dX10_goBack_57 : decode cX10_goBack 57 = .ok (.sipush 162, 3) := by decide +kernel
theorem dX10_goBack_60 : decode cX10_goBack 60 = .ok (.iload_n 1, 1) := by decide +kernel
theorem dX10_goBack_61 : decode cX10_goBack 61 = .ok (.imul, 1) := by decide +kernel
theorem dX10_goBack_62 : decode cX10_goBack 62 = .ok (.iload_n 2, 1) := by decide +kernel
theorem dX10_goBack_63 : decode cX10_goBack 63 = .ok (.iadd, 1) := by decide +kernel
theorem dX10_goBack_64 : decode cX10_goBack 64 = .ok (.iaload, 1) := by decide +kernel
theorem dX10_goBack_65 : decode cX10_goBack 65 = .ok (.iastore, 1) := by decide +kernel
theorem dX10_goBack_66 : decode cX10_goBack 66 = .ok (.iinc 2 1, 3) := by decide +kernel
theorem dX10_goBack_69 : decode cX10_goBack 69 = .ok (.goto (-28), 3) := by decide +kernel
theorem dX10_goBack_72 : decode cX10_goBack 72 = .ok (.aload_n 0, 1) := by decide +kernel
theorem dX10_goBack_73 : decode cX10_goBack 73 = .ok (.getfield 7, 3) := by decide +kernel
theorem dX10_goBack_76 : decode cX10_goBack 76 = .ok (.bipush 7, 2) := by decide +kernel
theorem dX10_goBack_78 : decode cX10_goBack 78 = .ok (.iaload, 1) := by decide +kernel
theorem dX10_goBack_79 : decode cX10_goBack 79 = .ok (.ireturn, 1) := by decide +kernel
theorem dX10_undo_0 : decode cX10_undo 0 = .ok (.aload_n 0, 1) := by decide +kernel
theorem dX10_undo_1 : decode cX10_undo 1 = .ok (.iconst 0, 1) := by decide +kernel
theorem dX10_undo_2 : decode cX10_undo 2 = .ok (.putfield 38, 3) := by decide +kernel
theorem dX10_undo_5 : decode cX10_undo 5 = .ok (.aload_n 0, 1) := by decide +kernel
theorem dX10_undo_6 : decode cX10_undo 6 = .ok (.getfield 53, 3) := by decide +kernel
theorem dX10_undo_9 : decode cX10_undo 9 = .ok (.ifCond .ne 9, 3) := by decide +kernel
theorem dX10_undo_12 : decode cX10_undo 12 = .ok (.aload_n 0, 1) := by decide +kernel
theorem dX10_undo_13 : decode cX10_undo 13 = .ok (.iconst 1, 1) := by decide +kernel
theorem dX10_undo_14 : decode cX10_undo 14 = .ok (.invokevirtual 110, 3) := by decide +kernel
theorem dX10_undo_17 : decode cX10_undo 17 = .ok (.ireturn, 1) := by decide +kernel
theorem dX10_undo_18 : decode cX10_undo 18 = .ok (.aload_n 0, 1) := by decide +kernel
theorem dX10_undo_19 : decode cX10_undo 19 = .ok (.dup, 1) := by decide +kernel
theorem dX10_undo_20 : decode cX10_undo 20 = .ok (.getfield 53, 3) := by decide +kernel
theorem dX10_undo_23 : decode cX10_undo 23 = .ok (.iconst 1, 1) := by decide +kernel
theorem dX10_undo_24 : decode cX10_undo 24 = .ok (.isub, 1) := by decide +kernel
theorem dX10_undo_25 : decode cX10_undo 25 = .ok (.putfield 53, 3) := by decide +kernel
theorem dX10_undo_28 : decode cX10_undo 28 = .ok (.iconst 0, 1) := by decide +kernel
theorem dX10_undo_29 : decode cX10_undo 29 = .ok (.istore_n 1, 1) := by decide +kernel
theorem dX10_undo_30 : decode cX10_undo 30 = .ok (.iload_n 1, 1) := by decide +kernel
theorem dX10_undo_31 : decode cX10_undo 31 = .ok (.sipush 162, 3) := by decide +kernel
theorem dX10_undo_34 : decode cX10_undo 34 = .ok (.if_icmp .ge 30, 3) := by decide +kernel
theorem dX10_undo_37 : decode cX10_undo 37 = .ok (.aload_n 0, 1) := by decide +kernel
theorem dX10_undo_38 : decode cX10_undo 38 = .ok (.getfield 7, 3) := by decide +kernel
theorem dX10_undo_41 : decode cX10_undo 41 = .ok (.iload_n 1, 1) := by decide +kernel
theorem dX10_undo_42 : decode cX10_undo 42 = .ok (.aload_n 0, 1) := by decide +kernel
theorem dX10_undo_43 : decode cX10_undo 43 = .ok (.getfield 13, 3) := by decide +kernel
theorem dX10_undo_46 : decode cX10_undo 46 = .ok (.sipush 162, 3) := by decide +kernel
theorem dX10_undo_49 : decode cX10_undo 49 = .ok (.aload_n 0, 1) := by decide +kernel
theorem dX10_undo_50 : decode cX10_undo 50 = .ok (.getfield 53, 3) := by decide +kernel
theorem dX10_undo_53 : decode cX10_undo 53 = .ok (.imul, 1) := by decide +kernel
theorem dX10_undo_54 : decode cX10_undo 54 = .ok (.iload_n 1, 1) := by decide +kernel
theorem dX10_undo_55 : decode cX10_undo 55 = .ok (.iadd, 1) := by decide +kernel
theorem dX10_undo_56 : decode cX10_undo 56 = .ok (.iaload, 1) := by decide +kernel
theorem dX10_undo_57 : decode cX10_undo 57 = .ok (.iastore, 1) := by decide +kernel
theorem dX10_undo_58 : decode cX10_undo 58 = .ok (.iinc 1 1, 3) := by decide +kernel
theorem dX10_undo_61 : decode cX10_undo 61 = .ok (.goto (-31), 3) := by decide +kernel
theorem dX10_undo_64 : decode cX10_undo 64 = .ok (.aload_n 0, 1) := by decide +kernel
theorem dX10_undo_65 : decode cX10_undo 65 = .ok (.getfield 53, 3) := by decide +kernel
theorem dX10_undo_68 : decode cX10_undo 68 = .ok (.ireturn, 1) := by decide +kernel
theorem dX10_tellsHole_0 : decode cX10_tellsHole 0 = .ok (.aload_n 0, 1) := by decide +kernel
theorem dX10_tellsHole_1 : decode cX10_tellsHole 1 = .ok (.invokevirtual 160, 3) := by decide +kernel
theorem dX10_tellsHole_4 : decode cX10_tellsHole 4 = .ok (.iload_n 2, 1) := by decide +kernel
theorem dX10_tellsHole_5 : decode cX10_tellsHole 5 = .ok (.tableswitch 158 0 10 #[59, 72, 72, 72, 81, 94, 100, 106, 124, 131, 149], 59) := by decide +kernel
theorem dX10_tellsHole_64 : decode cX10_tellsHole 64 = .ok (.aload_n 0, 1) := by decide +kernel
theorem dX10_tellsHole_65 : decode cX10_tellsHole 65 = .ok (.iload_n 1, 1) := by decide +kernel
theorem dX10_tellsHole_66 : decode cX10_tellsHole 66 = .ok (.aload_n 0, 1) := by decide +kernel
theorem dX10_tellsHole_67 : decode cX10_tellsHole 67 = .ok (.getfield 7, 3) := by decide +kernel
theorem dX10_tellsHole_70 : decode cX10_tellsHole 70 = .ok (.bipush 6, 2) := by decide +kernel
theorem dX10_tellsHole_72 : decode cX10_tellsHole 72 = .ok (.iaload, 1) := by decide +kernel
theorem dX10_tellsHole_73 : decode cX10_tellsHole 73 = .ok (.invokevirtual 61, 3) := by decide +kernel
theorem dX10_tellsHole_76 : decode cX10_tellsHole 76 = .ok (.ireturn, 1) := by decide +kernel
theorem dX10_tellsHole_77 : decode cX10_tellsHole 77 = .ok (.aload_n 0, 1) := by decide +kernel
theorem dX10_tellsHole_78 : decode cX10_tellsHole 78 = .ok (.iload_n 1, 1) := by decide +kernel
theorem dX10_tellsHole_79 : decode cX10_tellsHole 79 = .ok (.iload_n 2, 1) := by decide +kernel
theorem dX10_tellsHole_80 : decode cX10_tellsHole 80 = .ok (.iconst 1, 1) := by decide +kernel
theorem dX10_tellsHole_81 : decode cX10_tellsHole 81 = .ok (.isub, 1) := by decide +kernel
theorem dX10_tellsHole_82 : decode cX10_tellsHole 82 = .ok (.invokevirtual 71, 3) := by decide +kernel
theorem dX10_tellsHole_85 : decode cX10_tellsHole 85 = .ok (.ireturn, 1) := by decide +kernel
theorem dX10_tellsHole_86 : decode cX10_tellsHole 86 = .ok (.aload_n 0, 1) := by decide +kernel
theorem dX10_tellsHole_87 : decode cX10_tellsHole 87 = .ok (.iload_n 1, 1) := by decide +kernel
theorem dX10_tellsHole_88 : decode cX10_tellsHole 88 = .ok (.aload_n 0, 1) := by decide +kernel
theorem dX10_tellsHole_89 : decode cX10_tellsHole 89 = .ok (.getfield 7, 3) := by decide +kernel
theorem dX10_tellsHole_92 : decode cX10_tellsHole 92 = .ok (.bipush 6, 2) := by decide +kernel
theorem dX10_tellsHole_94 : decode cX10_tellsHole 94 = .ok (.iaload, 1) := by decide +kernel
theorem dX10_tellsHole_95 : decode cX10_tellsHole 95 = .ok (.invokevirtual 65, 3) := by decide +kernel
theorem dX10_tellsHole_98 : decode cX10_tellsHole 98 = .ok (.ireturn, 1) := by decide +kernel
theorem dX10_tellsHole_99 : decode cX10_tellsHole 99 = .ok (.aload_n 0, 1) := by decide +kernel
theorem dX10_tellsHole_100 : decode cX10_tellsHole 100 = .ok (.iload_n 1, 1) := by decide +kernel
theorem dX10_tellsHole_101 : decode cX10_tellsHole 101 = .ok (.invokevirtual 68, 3) := by decide +kernel
theorem dX10_tellsHole_104 : decode cX10_tellsHole 104 = .ok (.ireturn, 1) := by decide +kernel
theorem dX10_tellsHole_105 : decode cX10_tellsHole 105 = .ok (.aload_n 0, 1) := by decide +kernel
theorem dX10_tellsHole_106 : decode cX10_tellsHole 106 = .ok (.iload_n 1, 1) := by decide +kernel
theorem dX10_tellsHole_107 : decode cX10_tellsHole 107 = .ok (.invokevirtual 130, 3) := by decide +kernel
theorem dX10_tellsHole_110 : decode cX10_tellsHole 110 = .ok (.ireturn, 1) := by decide +kernel
theorem dX10_tellsHole_111 : decode cX10_tellsHole 111 = .ok (.aload_n 0, 1) := by decide +kernel
theorem dX10_tellsHole_112 : decode cX10_tellsHole 112 = .ok (.getfield 80, 3) := by decide +kernel
theorem dX10_tellsHole_115 : decode cX10_tellsHole 115 = .ok (.ifCond .ne 7, 3) := by decide +kernel
theorem dX10_tellsHole_118 : decode cX10_tellsHole 118 = .ok (.iconst (-1), 1) := by decide +kernel
theorem dX10_tellsHole_119 : decode cX10_tellsHole 119 = .ok (.goto 9, 3) := by decide +kernel
theorem dX10_tellsHole_122 : decode cX10_tellsHole 122 = .ok (.aload_n 0, 1) := by decide +kernel
theorem dX10_tellsHole_123 : decode cX10_tellsHole 123 = .ok (.getfield 26, 3) := by decide +kernel
theorem dX10_tellsHole_126 : decode cX10_tellsHole 126 = .ok (.iload_n 1, 1) := by decide +kernel
theorem dX10_tellsHole_127 : decode cX10_tellsHole 127 = .ok (.iaload, 1) := by decide +kernel
theorem dX10_tellsHole_128 : decode cX10_tellsHole 128 = .ok (.ireturn, 1) := by decide +kernel
theorem dX10_tellsHole_129 : decode cX10_tellsHole 129 = .ok (.aload_n 0, 1) := by decide +kernel
theorem dX10_tellsHole_130 : decode cX10_tellsHole 130 = .ok (.getfield 29, 3) := by decide +kernel
theorem dX10_tellsHole_133 : decode cX10_tellsHole 133 = .ok (.iload_n 1, 1) := by decide +kernel
theorem dX10_tellsHole_134 : decode cX10_tellsHole 134 = .ok (.iaload, 1) := by decide +kernel
theorem dX10_tellsHole_135 : decode cX10_tellsHole 135 = .ok (.ireturn, 1) := by decide +kernel
theorem dX10_tellsHole_136 : decode cX10_tellsHole 136 = .ok (.aload_n 0, 1) := by decide +kernel
theorem dX10_tellsHole_137 : decode cX10_tellsHole 137 = .ok (.getfield 93, 3) := by decide +kernel
theorem dX10_tellsHole_140 : decode cX10_tellsHole 140 = .ok (.ifCond .ne 7, 3) := by decide +kernel
theorem dX10_tellsHole_143 : decode cX10_tellsHole 143 = .ok (.iconst (-1), 1) := by decide +kernel
theorem dX10_tellsHole_144 : decode cX10_tellsHole 144 = .ok (.goto 9, 3) := by decide +kernel
theorem dX10_tellsHole_147 : decode cX10_tellsHole 147 = .ok (.aload_n 0, 1) := by decide +kernel
theorem dX10_tellsHole_148 : decode cX10_tellsHole 148 = .ok (.getfield 32, 3) := by decide +kernel
theorem dX10_tellsHole_151 : decode cX10_tellsHole 151 = .ok (.iload_n 1, 1) := by decide +kernel
theorem dX10_tellsHole_152 : decode cX10_tellsHole 152 = .ok (.iaload, 1) := by decide +kernel
theorem dX10_tellsHole_153 : decode cX10_tellsHole 153 = .ok (.ireturn, 1) := by decide +kernel
theorem dX10_tellsHole_154 : decode cX10_tellsHole 154 = .ok (.aload_n 0, 1) := by decide +kernel
theorem dX10_tellsHole_155 : decode cX10_tellsHole 155 = .ok (.iload_n 1, 1) := by decide +kernel
theorem dX10_tellsHole_156 : decode cX10_tellsHole 156 = .ok (.iload_n 1, 1) := by decide +kernel
theorem dX10_tellsHole_157 : decode cX10_tellsHole 157 = .ok (.iconst 1, 1) := by decide +kernel
theorem dX10_tellsHole_158 : decode cX10_tellsHole 158 = .ok (.iadd, 1) := by decide +kernel
theorem dX10_tellsHole_159 : decode cX10_tellsHole 159 = .ok (.invokevirtual 163, 3) := by decide +kernel
theorem dX10_tellsHole_162 : decode cX10_tellsHole 162 = .ok (.ireturn, 1) := by decide +kernel
theorem dX10_tellsHole_163 : decode cX10_tellsHole 163 = .ok (.aload_n 0, 1) := by decide +kernel
theorem dX10_tellsHole_164 : decode cX10_tellsHole 164 = .ok (.iload_n 1, 1) := by decide +kernel
theorem dX10_tellsHole_165 : decode cX10_tellsHole 165 = .ok (.iconst 3, 1) := by decide +kernel
theorem dX10_tellsHole_166 : decode cX10_tellsHole 166 = .ok (.invokevirtual 71, 3) := by decide +kernel
theorem dX10_tellsHole_169 : decode cX10_tellsHole 169 = .ok (.ireturn, 1) := by decide +kernel
theorem dX10_hole_0 : decode cX10_hole 0 = .ok (.aload_n 0, 1) := by decide +kernel
theorem dX10_hole_1 : decode cX10_hole 1 = .ok (.iconst 0, 1) := by decide +kernel
theorem dX10_hole_2 : decode cX10_hole 2 = .ok (.putfield 38, 3) := by decide +kernel
theorem dX10_hole_5 : decode cX10_hole 5 = .ok (.aload_n 0, 1) := by decide +kernel
theorem dX10_hole_6 : decode cX10_hole 6 = .ok (.iload_n 1, 1) := by decide +kernel
theorem dX10_hole_7 : decode cX10_hole 7 = .ok (.invokevirtual 87, 3) := by decide +kernel
theorem dX10_hole_10 : decode cX10_hole 10 = .ok (.ifCond .ne 9, 3) := by decide +kernel
theorem dX10_hole_13 : decode cX10_hole 13 = .ok (.aload_n 0, 1) := by decide +kernel
theorem dX10_hole_14 : decode cX10_hole 14 = .ok (.iconst 1, 1) := by decide +kernel
theorem dX10_hole_15 : decode cX10_hole 15 = .ok (.invokevirtual 110, 3) := by decide +kernel
theorem dX10_hole_18 : decode cX10_hole 18 = .ok (.ireturn, 1) := by decide +kernel
theorem dX10_hole_19 : decode cX10_hole 19 = .ok (.iload_n 2, 1) := by decide +kernel
theorem dX10_hole_20 : decode cX10_hole 20 = .ok (.iconst 0, 1) := by decide +kernel
theorem dX10_hole_21 : decode cX10_hole 21 = .ok (.bipush 11, 2) := by decide +kernel
theorem dX10_hole_23 : decode cX10_hole 23 = .ok (.invokestatic 45, 3) := by decide +kernel
theorem dX10_hole_26 : decode cX10_hole 26 = .ok (.ifCond .eq 12, 3) := by decide +kernel
theorem dX10_hole_29 : decode cX10_hole 29 = .ok (.aload_n 0, 1) := by decide +kernel
theorem dX10_hole_30 : decode cX10_hole 30 = .ok (.iload_n 1, 1) := by decide +kernel
theorem dX10_hole_31 : decode cX10_hole 31 = .ok (.iload_n 2, 1) := by decide +kernel
theorem dX10_hole_32 : decode cX10_hole 32 = .ok (.invokevirtual 166, 3) := by decide +kernel
theorem dX10_hole_35 : decode cX10_hole 35 = .ok (.goto 8, 3) := by decide +kernel
theorem dX10_hole_38 : decode cX10_hole 38 = .ok (.aload_n 0, 1) := by decide +kernel
theorem dX10_hole_39 : decode cX10_hole 39 = .ok (.iconst 2, 1) := by decide +kernel
theorem dX10_hole_40 : decode cX10_hole 40 = .ok (.invokevirtual 110, 3) := by decide +kernel
theorem dX10_hole_43 : decode cX10_hole 43 = .ok (.ireturn, 1) := by decide +kernel
theorem dX10_tellsReading_0 : decode cX10_tellsReading 0 = .ok (.iload_n 2, 1) := by decide +kernel
theorem dX10_tellsReading_1 : decode cX10_tellsReading 1 = .ok (.tableswitch 51 8 10 #[27, 27, 37], 27) := by decide +kernel
theorem dX10_tellsReading_28 : decode cX10_tellsReading 28 = .ok (.aload_n 0, 1) := by decide +kernel
theorem dX10_tellsReading_29 : decode cX10_tellsReading 29 = .ok (.iload_n 1, 1) := by decide +kernel
theorem dX10_tellsReading_30 : decode cX10_tellsReading 30 = .ok (.iload_n 2, 1) := by decide +kernel
theorem dX10_tellsReading_31 : decode cX10_tellsReading 31 = .ok (.bipush 8, 2) := by decide +kernel
theorem dX10_tellsReading_33 : decode cX10_tellsReading 33 = .ok (.isub, 1) := by decide +kernel
theorem dX10_tellsReading_34 : decode cX10_tellsReading 34 = .ok (.invokevirtual 77, 3) := by decide +kernel
theorem dX10_tellsReading_37 : decode cX10_tellsReading 37 = .ok (.ireturn, 1) := by decide +kernel
theorem dX10_tellsReading_38 : decode cX10_tellsReading 38 = .ok (.aload_n 0, 1) := by decide +kernel
theorem dX10_tellsReading_39 : decode cX10_tellsReading 39 = .ok (.iload_n 1, 1) := by decide +kernel
theorem dX10_tellsReading_40 : decode cX10_tellsReading 40 = .ok (.invokevirtual 83, 3) := by decide +kernel
theorem dX10_tellsReading_43 : decode cX10_tellsReading 43 = .ok (.ifCond .eq 7, 3) := by decide +kernel
theorem dX10_tellsReading_46 : decode cX10_tellsReading 46 = .ok (.iconst 1, 1) := by decide +kernel
theorem dX10_tellsReading_47 : decode cX10_tellsReading 47 = .ok (.goto 4, 3) := by decide +kernel
theorem dX10_tellsReading_50 : decode cX10_tellsReading 50 = .ok (.iconst 0, 1) := by decide +kernel
theorem dX10_tellsReading_51 : decode cX10_tellsReading 51 = .ok (.ireturn, 1) := by decide +kernel
theorem dX10_tellsReading_52 : decode cX10_tellsReading 52 = .ok (.iload_n 2, 1) := by decide +kernel
theorem dX10_tellsReading_53 : decode cX10_tellsReading 53 = .ok (.aload_n 0, 1) := by decide +kernel
theorem dX10_tellsReading_54 : decode cX10_tellsReading 54 = .ok (.iload_n 1, 1) := by decide +kernel
theorem dX10_tellsReading_55 : decode cX10_tellsReading 55 = .ok (.iconst 0, 1) := by decide +kernel
theorem dX10_tellsReading_56 : decode cX10_tellsReading 56 = .ok (.invokevirtual 77, 3) := by decide +kernel
theorem dX10_tellsReading_59 : decode cX10_tellsReading 59 = .ok (.if_icmp .ge 14, 3) := by decide +kernel
theorem dX10_tellsReading_62 : decode cX10_tellsReading 62 = .ok (.aload_n 0, 1) := by decide +kernel
theorem dX10_tellsReading_63 : decode cX10_tellsReading 63 = .ok (.iload_n 1, 1) := by decide +kernel
theorem dX10_tellsReading_64 : decode cX10_tellsReading 64 = .ok (.iconst 2, 1) := by decide +kernel
theorem dX10_tellsReading_65 : decode cX10_tellsReading 65 = .ok (.iload_n 2, 1) := by decide +kernel
theorem dX10_tellsReading_66 : decode cX10_tellsReading 66 = .ok (.iadd, 1) := by decide +kernel
theorem dX10_tellsReading_67 : decode cX10_tellsReading 67 = .ok (.invokevirtual 77, 3) := by decide +kernel
theorem dX10_tellsReading_70 : decode cX10_tellsReading 70 = .ok (.goto 4, 3) := by decide +kernel
theorem dX10_tellsReading_73 : decode cX10_tellsReading 73 = .ok (.iconst (-1), 1) := by decide +kernel
theorem dX10_tellsReading_74 : decode cX10_tellsReading 74 = .ok (.ireturn, 1) := by decide +kernel
theorem dX10_reading_0 : decode cX10_reading 0 = .ok (.aload_n 0, 1) := by decide +kernel
theorem dX10_reading_1 : decode cX10_reading 1 = .ok (.iconst 0, 1) := by decide +kernel
theorem dX10_reading_2 : decode cX10_reading 2 = .ok (.putfield 38, 3) := by decide +kernel
theorem dX10_reading_5 : decode cX10_reading 5 = .ok (.iload_n 1, 1) := by decide +kernel
theorem dX10_reading_6 : decode cX10_reading 6 = .ok (.iconst 0, 1) := by decide +kernel
theorem dX10_reading_7 : decode cX10_reading 7 = .ok (.aload_n 0, 1) := by decide +kernel
theorem dX10_reading_8 : decode cX10_reading 8 = .ok (.getfield 7, 3) := by decide +kernel
theorem dX10_reading_11 : decode cX10_reading 11 = .ok (.bipush 7, 2) := by decide +kernel
theorem dX10_reading_13 : decode cX10_reading 13 = .ok (.iaload, 1) := by decide +kernel
theorem dX10_reading_14 : decode cX10_reading 14 = .ok (.iconst 1, 1) := by decide +kernel
theorem dX10_reading_15 : decode cX10_reading 15 = .ok (.isub, 1) := by decide +kernel
theorem dX10_reading_16 : decode cX10_reading 16 = .ok (.invokestatic 45, 3) := by decide +kernel
theorem dX10_reading_19 : decode cX10_reading 19 = .ok (.ifCond .ne 9, 3) := by decide +kernel
theorem dX10_reading_22 : decode cX10_reading 22 = .ok (.aload_n 0, 1) := by decide +kernel
theorem dX10_reading_23 : decode cX10_reading 23 = .ok (.iconst 1, 1) := by decide +kernel
theorem dX10_reading_24 : decode cX10_reading 24 = .ok (.invokevirtual 110, 3) := by decide +kernel
theorem dX10_reading_27 : decode cX10_reading 27 = .ok (.ireturn, 1) := by decide +kernel
theorem dX10_reading_28 : decode cX10_reading 28 = .ok (.iload_n 2, 1) := by decide +kernel
theorem dX10_reading_29 : decode cX10_reading 29 = .ok (.iconst 0, 1) := by decide +kernel
theorem dX10_reading_30 : decode cX10_reading 30 = .ok (.bipush 10, 2) := by decide +kernel
theorem dX10_reading_32 : decode cX10_reading 32 = .ok (.invokestatic 45, 3) := by decide +kernel
theorem dX10_reading_35 : decode cX10_reading 35 = .ok (.ifCond .eq 12, 3) := by decide +kernel
theorem dX10_reading_38 : decode cX10_reading 38 = .ok (.aload_n 0, 1) := by decide +kernel
theorem dX10_reading_39 : decode cX10_reading 39 = .ok (.iload_n 1, 1) := by decide +kernel
theorem dX10_reading_40 : decode cX10_reading 40 = .ok (.iload_n 2, 1) := by decide +kernel
theorem dX10_reading_41 : decode cX10_reading 41 = .ok (.invokevirtual 169, 3) := by decide +kernel
theorem dX10_reading_44 : decode cX10_reading 44 = .ok (.goto 8, 3) := by decide +kernel
theorem dX10_reading_47 : decode cX10_reading 47 = .ok (.aload_n 0, 1) := by decide +kernel
theorem dX10_reading_48 : decode cX10_reading 48 = .ok (.iconst 2, 1) := by decide +kernel
theorem dX10_reading_49 : decode cX10_reading 49 = .ok (.invokevirtual 110, 3) := by decide +kernel
theorem dX10_reading_52 : decode cX10_reading 52 = .ok (.ireturn, 1) := by decide +kernel
theorem dX10_tellsFlow_0 : decode cX10_tellsFlow 0 = .ok (.aload_n 0, 1) := by decide +kernel
theorem dX10_tellsFlow_1 : decode cX10_tellsFlow 1 = .ok (.invokevirtual 160, 3) := by decide +kernel
theorem dX10_tellsFlow_4 : decode cX10_tellsFlow 4 = .ok (.iload_n 1, 1) := by decide +kernel
theorem dX10_tellsFlow_5 : decode cX10_tellsFlow 5 = .ok (.tableswitch 76 0 2 #[27, 40, 55], 27) := by decide +kernel
theorem dX10_tellsFlow_32 : decode cX10_tellsFlow 32 = .ok (.aload_n 0, 1) := by decide +kernel
theorem dX10_tellsFlow_33 : decode cX10_tellsFlow 33 = .ok (.iconst 0, 1) := by decide +kernel
theorem dX10_tellsFlow_34 : decode cX10_tellsFlow 34 = .ok (.aload_n 0, 1) := by decide +kernel
theorem dX10_tellsFlow_35 : decode cX10_tellsFlow 35 = .ok (.getfield 7, 3) := by decide +kernel
theorem dX10_tellsFlow_38 : decode cX10_tellsFlow 38 = .ok (.bipush 6, 2) := by decide +kernel
theorem dX10_tellsFlow_40 : decode cX10_tellsFlow 40 = .ok (.iaload, 1) := by decide +kernel
theorem dX10_tellsFlow_41 : decode cX10_tellsFlow 41 = .ok (.invokevirtual 163, 3) := by decide +kernel
theorem dX10_tellsFlow_44 : decode cX10_tellsFlow 44 = .ok (.ireturn, 1) := by decide +kernel
theorem dX10_tellsFlow_45 : decode cX10_tellsFlow 45 = .ok (.aload_n 0, 1) := by decide +kernel
theorem dX10_tellsFlow_46 : decode cX10_tellsFlow 46 = .ok (.iconst 0, 1) := by decide +kernel
theorem dX10_tellsFlow_47 : decode cX10_tellsFlow 47 = .ok (.aload_n 0, 1) := by decide +kernel
theorem dX10_tellsFlow_48 : decode cX10_tellsFlow 48 = .ok (.getfield 7, 3) := by decide +kernel
theorem dX10_tellsFlow_51 : decode cX10_tellsFlow 51 = .ok (.bipush 6, 2) := by decide +kernel
theorem dX10_tellsFlow_53 : decode cX10_tellsFlow 53 = .ok (.iaload, 1) := by decide +kernel
theorem dX10_tellsFlow_54 : decode cX10_tellsFlow 54 = .ok (.iconst 2, 1) := by decide +kernel
theorem dX10_tellsFlow_55 : decode cX10_tellsFlow 55 = .ok (.idiv, 1) := by decide +kernel
theorem dX10_tellsFlow_56 : decode cX10_tellsFlow 56 = .ok (.invokevirtual 163, 3) := by decide +kernel
theorem dX10_tellsFlow_59 : decode cX10_tellsFlow 59 = .ok (.ireturn, 1) := by decide +kernel
theorem dX10_tellsFlow_60 : decode cX10_tellsFlow 60 = .ok (.aload_n 0, 1) := by decide +kernel
theorem dX10_tellsFlow_61 : decode cX10_tellsFlow 61 = .ok (.aload_n 0, 1) := by decide +kernel
theorem dX10_tellsFlow_62 : decode cX10_tellsFlow 62 = .ok (.getfield 7, 3) := by decide +kernel
theorem dX10_tellsFlow_65 : decode cX10_tellsFlow 65 = .ok (.bipush 6, 2) := by decide +kernel
theorem dX10_tellsFlow_67 : decode cX10_tellsFlow 67 = .ok (.iaload, 1) := by decide +kernel
theorem dX10_tellsFlow_68 : decode cX10_tellsFlow 68 = .ok (.iconst 2, 1) := by decide +kernel
theorem dX10_tellsFlow_69 : decode cX10_tellsFlow 69 = .ok (.idiv, 1) := by decide +kernel
theorem dX10_tellsFlow_70 : decode cX10_tellsFlow 70 = .ok (.aload_n 0, 1) := by decide +kernel
theorem dX10_tellsFlow_71 : decode cX10_tellsFlow 71 = .ok (.getfield 7, 3) := by decide +kernel
theorem dX10_tellsFlow_74 : decode cX10_tellsFlow 74 = .ok (.bipush 6, 2) := by decide +kernel
theorem dX10_tellsFlow_76 : decode cX10_tellsFlow 76 = .ok (.iaload, 1) := by decide +kernel
theorem dX10_tellsFlow_77 : decode cX10_tellsFlow 77 = .ok (.invokevirtual 163, 3) := by decide +kernel
theorem dX10_tellsFlow_80 : decode cX10_tellsFlow 80 = .ok (.ireturn, 1) := by decide +kernel
theorem dX10_tellsFlow_81 : decode cX10_tellsFlow 81 = .ok (.aload_n 0, 1) := by decide +kernel
theorem dX10_tellsFlow_82 : decode cX10_tellsFlow 82 = .ok (.aload_n 0, 1) := by decide +kernel
theorem dX10_tellsFlow_83 : decode cX10_tellsFlow 83 = .ok (.getfield 7, 3) := by decide +kernel
theorem dX10_tellsFlow_86 : decode cX10_tellsFlow 86 = .ok (.bipush 6, 2) := by decide +kernel
theorem dX10_tellsFlow_88 : decode cX10_tellsFlow 88 = .ok (.iaload, 1) := by decide +kernel
theorem dX10_tellsFlow_89 : decode cX10_tellsFlow 89 = .ok (.invokevirtual 172, 3) := by decide +kernel
theorem dX10_tellsFlow_92 : decode cX10_tellsFlow 92 = .ok (.ireturn, 1) := by decide +kernel
theorem dX10_flow_0 : decode cX10_flow 0 = .ok (.aload_n 0, 1) := by decide +kernel
theorem dX10_flow_1 : decode cX10_flow 1 = .ok (.iconst 0, 1) := by decide +kernel
theorem dX10_flow_2 : decode cX10_flow 2 = .ok (.putfield 38, 3) := by decide +kernel
theorem dX10_flow_5 : decode cX10_flow 5 = .ok (.iload_n 1, 1) := by decide +kernel
theorem dX10_flow_6 : decode cX10_flow 6 = .ok (.iconst 0, 1) := by decide +kernel
theorem dX10_flow_7 : decode cX10_flow 7 = .ok (.iconst 3, 1) := by decide +kernel
theorem dX10_flow_8 : decode cX10_flow 8 = .ok (.invokestatic 45, 3) := by decide +kernel
theorem dX10_flow_11 : decode cX10_flow 11 = .ok (.ifCond .eq 11, 3) := by decide +kernel
theorem dX10_flow_14 : decode cX10_flow 14 = .ok (.aload_n 0, 1) := by decide +kernel
theorem dX10_flow_15 : decode cX10_flow 15 = .ok (.iload_n 1, 1) := by decide +kernel
theorem dX10_flow_16 : decode cX10_flow 16 = .ok (.invokevirtual 175, 3) := by decide +kernel
theorem dX10_flow_19 : decode cX10_flow 19 = .ok (.goto 8, 3) := by decide +kernel
theorem dX10_flow_22 : decode cX10_flow 22 = .ok (.aload_n 0, 1) := by decide +kernel
theorem dX10_flow_23 : decode cX10_flow 23 = .ok (.iconst 1, 1) := by decide +kernel
theorem dX10_flow_24 : decode cX10_flow 24 = .ok (.invokevirtual 110, 3) := by decide +kernel
theorem dX10_flow_27 : decode cX10_flow 27 = .ok (.ireturn, 1) := by decide +kernel
theorem dX10_holesFor_0 : decode cX10_holesFor 0 = .ok (.aload_n 0, 1) := by decide +kernel
theorem dX10_holesFor_1 : decode cX10_holesFor 1 = .ok (.invokevirtual 160, 3) := by decide +kernel
theorem dX10_holesFor_4 : decode cX10_holesFor 4 = .ok (.iconst 0, 1) := by decide +kernel
theorem dX10_holesFor_5 : decode cX10_holesFor 5 = .ok (.istore_n 2, 1) := by decide +kernel
theorem dX10_holesFor_6 : decode cX10_holesFor 6 = .ok (.iconst 0, 1) := by decide +kernel
theorem dX10_holesFor_7 : decode cX10_holesFor 7 = .ok (.istore_n 3, 1) := by decide +kernel
theorem dX10_holesFor_8 : decode cX10_holesFor 8 = .ok (.iload_n 3, 1) := by decide +kernel
theorem dX10_holesFor_9 : decode cX10_holesFor 9 = .ok (.aload_n 0, 1) := by decide +kernel
theorem dX10_holesFor_10 : decode cX10_holesFor 10 = .ok (.getfield 7, 3) := by decide +kernel
theorem dX10_holesFor_13 : decode cX10_holesFor 13 = .ok (.bipush 6, 2) := by decide +kernel
theorem dX10_holesFor_15 : decode cX10_holesFor 15 = .ok (.iaload, 1) := by decide +kernel
theorem dX10_holesFor_16 : decode cX10_holesFor 16 = .ok (.if_icmp .ge 27, 3) := by decide +kernel
theorem dX10_holesFor_19 : decode cX10_holesFor 19 = .ok (.iload_n 2, 1) := by decide +kernel
theorem dX10_holesFor_20 : decode cX10_holesFor 20 = .ok (.aload_n 0, 1) := by decide +kernel
theorem dX10_holesFor_21 : decode cX10_holesFor 21 = .ok (.getfield 29, 3) := by decide +kernel
theorem dX10_holesFor_24 : decode cX10_holesFor 24 = .ok (.iload_n 3, 1) := by decide +kernel
theorem dX10_holesFor_25 : decode cX10_holesFor 25 = .ok (.iaload, 1) := by decide +kernel
theorem dX10_holesFor_26 : decode cX10_holesFor 26 = .ok (.iload_n 1, 1) := by decide +kernel
theorem dX10_holesFor_27 : decode cX10_holesFor 27 = .ok (.if_icmp .ne 7, 3) := by decide +kernel
theorem dX10_holesFor_30 : decode cX10_holesFor 30 = .ok (.iconst 1, 1) := by decide +kernel
theorem dX10_holesFor_31 : decode cX10_holesFor 31 = .ok (.goto 4, 3) := by decide +kernel
theorem dX10_holesFor_34 : decode cX10_holesFor 34 = .ok (.iconst 0, 1) := by decide +kernel
theorem dX10_holesFor_35 : decode cX10_holesFor 35 = .ok (.iadd, 1) := by decide +kernel
theorem dX10_holesFor_36 : decode cX10_holesFor 36 = .ok (.istore_n 2, 1) := by decide +kernel
theorem dX10_holesFor_37 : decode cX10_holesFor 37 = .ok (.iinc 3 1, 3) := by decide +kernel
theorem dX10_holesFor_40 : decode cX10_holesFor 40 = .ok (.goto (-32), 3) := by decide +kernel
theorem dX10_holesFor_43 : decode cX10_holesFor 43 = .ok (.iload_n 2, 1) := by decide +kernel
theorem dX10_holesFor_44 : decode cX10_holesFor 44 = .ok (.ireturn, 1) := by decide +kernel
theorem dX10_tellsCount_0 : decode cX10_tellsCount 0 = .ok (.iload_n 1, 1) := by decide +kernel
theorem dX10_tellsCount_1 : decode cX10_tellsCount 1 = .ok (.tableswitch 157 0 13 #[71, 79, 86, 94, 157, 157, 157, 157, 157, 103, 126, 136, 144, 152], 71) := by decide +kernel
theorem dX10_tellsCount_72 : decode cX10_tellsCount 72 = .ok (.aload_n 0, 1) := by decide +kernel
theorem dX10_tellsCount_73 : decode cX10_tellsCount 73 = .ok (.getfield 7, 3) := by decide +kernel
theorem dX10_tellsCount_76 : decode cX10_tellsCount 76 = .ok (.bipush 6, 2) := by decide +kernel
theorem dX10_tellsCount_78 : decode cX10_tellsCount 78 = .ok (.iaload, 1) := by decide +kernel
theorem dX10_tellsCount_79 : decode cX10_tellsCount 79 = .ok (.ireturn, 1) := by decide +kernel
theorem dX10_tellsCount_80 : decode cX10_tellsCount 80 = .ok (.aload_n 0, 1) := by decide +kernel
theorem dX10_tellsCount_81 : decode cX10_tellsCount 81 = .ok (.getfield 7, 3) := by decide +kernel
theorem dX10_tellsCount_84 : decode cX10_tellsCount 84 = .ok (.iconst 5, 1) := by decide +kernel
theorem dX10_tellsCount_85 : decode cX10_tellsCount 85 = .ok (.iaload, 1) := by decide +kernel
theorem dX10_tellsCount_86 : decode cX10_tellsCount 86 = .ok (.ireturn, 1) := by decide +kernel
theorem dX10_tellsCount_87 : decode cX10_tellsCount 87 = .ok (.aload_n 0, 1) := by decide +kernel
theorem dX10_tellsCount_88 : decode cX10_tellsCount 88 = .ok (.getfield 7, 3) := by decide +kernel
theorem dX10_tellsCount_91 : decode cX10_tellsCount 91 = .ok (.bipush 7, 2) := by decide +kernel
theorem dX10_tellsCount_93 : decode cX10_tellsCount 93 = .ok (.iaload, 1) := by decide +kernel
theorem dX10_tellsCount_94 : decode cX10_tellsCount 94 = .ok (.ireturn, 1) := by decide +kernel
theorem dX10_tellsCount_95 : decode cX10_tellsCount 95 = .ok (.aload_n 0, 1) := by decide +kernel
theorem dX10_tellsCount_96 : decode cX10_tellsCount 96 = .ok (.invokevirtual 103, 3) := by decide +kernel
theorem dX10_tellsCount_99 : decode cX10_tellsCount 99 = .ok (.aload_n 0, 1) := by decide +kernel
theorem dX10_tellsCount_100 : decode cX10_tellsCount 100 = .ok (.getfield 80, 3) := by decide +kernel
theorem dX10_tellsCount_103 : decode cX10_tellsCount 103 = .ok (.ireturn, 1) := by decide +kernel
theorem dX10_tellsCount_104 : decode cX10_tellsCount 104 = .ok (.iconst 5, 1) := by decide +kernel
theorem dX10_tellsCount_105 : decode cX10_tellsCount 105 = .ok (.aload_n 0, 1) := by decide +kernel
theorem dX10_tellsCount_106 : decode cX10_tellsCount 106 = .ok (.getfield 7, 3) := by decide +kernel
theorem dX10_tellsCount_109 : decode cX10_tellsCount 109 = .ok (.bipush 8, 2) := by decide +kernel
theorem dX10_tellsCount_111 : decode cX10_tellsCount 111 = .ok (.iaload, 1) := by decide +kernel
theorem dX10_tellsCount_112 : decode cX10_tellsCount 112 = .ok (.imul, 1) := by decide +kernel
theorem dX10_tellsCount_113 : decode cX10_tellsCount 113 = .ok (.aload_n 0, 1) := by decide +kernel
theorem dX10_tellsCount_114 : decode cX10_tellsCount 114 = .ok (.getfield 7, 3) := by decide +kernel
theorem dX10_tellsCount_117 : decode cX10_tellsCount 117 = .ok (.bipush 9, 2) := by decide +kernel
theorem dX10_tellsCount_119 : decode cX10_tellsCount 119 = .ok (.iaload, 1) := by decide +kernel
theorem dX10_tellsCount_120 : decode cX10_tellsCount 120 = .ok (.iadd, 1) := by decide +kernel
theorem dX10_tellsCount_121 : decode cX10_tellsCount 121 = .ok (.aload_n 0, 1) := by decide +kernel
theorem dX10_tellsCount_122 : decode cX10_tellsCount 122 = .ok (.invokevirtual 116, 3) := by decide +kernel
theorem dX10_tellsCount_125 : decode cX10_tellsCount 125 = .ok (.iadd, 1) := by decide +kernel
theorem dX10_tellsCount_126 : decode cX10_tellsCount 126 = .ok (.ireturn, 1) := by decide +kernel
theorem dX10_tellsCount_127 : decode cX10_tellsCount 127 = .ok (.iconst 5, 1) := by decide +kernel
theorem dX10_tellsCount_128 : decode cX10_tellsCount 128 = .ok (.aload_n 0, 1) := by decide +kernel
theorem dX10_tellsCount_129 : decode cX10_tellsCount 129 = .ok (.getfield 7, 3) := by decide +kernel
theorem dX10_tellsCount_132 : decode cX10_tellsCount 132 = .ok (.bipush 8, 2) := by decide +kernel
theorem dX10_tellsCount_134 : decode cX10_tellsCount 134 = .ok (.iaload, 1) := by decide +kernel
theorem dX10_tellsCount_135 : decode cX10_tellsCount 135 = .ok (.imul, 1) := by decide +kernel
theorem dX10_tellsCount_136 : decode cX10_tellsCount 136 = .ok (.ireturn, 1) := by decide +kernel
theorem dX10_tellsCount_137 : decode cX10_tellsCount 137 = .ok (.aload_n 0, 1) := by decide +kernel
theorem dX10_tellsCount_138 : decode cX10_tellsCount 138 = .ok (.getfield 7, 3) := by decide +kernel
theorem dX10_tellsCount_141 : decode cX10_tellsCount 141 = .ok (.bipush 9, 2) := by decide +kernel
theorem dX10_tellsCount_143 : decode cX10_tellsCount 143 = .ok (.iaload, 1) := by decide +kernel
theorem dX10_tellsCount_144 : decode cX10_tellsCount 144 = .ok (.ireturn, 1) := by decide +kernel
theorem dX10_tellsCount_145 : decode cX10_tellsCount 145 = .ok (.aload_n 0, 1) := by decide +kernel
theorem dX10_tellsCount_146 : decode cX10_tellsCount 146 = .ok (.getfield 7, 3) := by decide +kernel
theorem dX10_tellsCount_149 : decode cX10_tellsCount 149 = .ok (.bipush 8, 2) := by decide +kernel
theorem dX10_tellsCount_151 : decode cX10_tellsCount 151 = .ok (.iaload, 1) := by decide +kernel
theorem dX10_tellsCount_152 : decode cX10_tellsCount 152 = .ok (.ireturn, 1) := by decide +kernel
theorem dX10_tellsCount_153 : decode cX10_tellsCount 153 = .ok (.aload_n 0, 1) := by decide +kernel
theorem dX10_tellsCount_154 : decode cX10_tellsCount 154 = .ok (.getfield 53, 3) := by decide +kernel
theorem dX10_tellsCount_157 : decode cX10_tellsCount 157 = .ok (.ireturn, 1) := by decide +kernel
theorem dX10_tellsCount_158 : decode cX10_tellsCount 158 = .ok (.aload_n 0, 1) := by decide +kernel
theorem dX10_tellsCount_159 : decode cX10_tellsCount 159 = .ok (.iload_n 1, 1) := by decide +kernel
theorem dX10_tellsCount_160 : decode cX10_tellsCount 160 = .ok (.iconst 4, 1) := by decide +kernel
theorem dX10_tellsCount_161 : decode cX10_tellsCount 161 = .ok (.isub, 1) := by decide +kernel
theorem dX10_tellsCount_162 : decode cX10_tellsCount 162 = .ok (.invokevirtual 178, 3) := by decide +kernel
theorem dX10_tellsCount_165 : decode cX10_tellsCount 165 = .ok (.ireturn, 1) := by decide +kernel
theorem dX10_count_0 : decode cX10_count 0 = .ok (.aload_n 0, 1) := by decide +kernel
theorem dX10_count_1 : decode cX10_count 1 = .ok (.iconst 0, 1) := by decide +kernel
theorem dX10_count_2 : decode cX10_count 2 = .ok (.putfield 38, 3) := by decide +kernel
theorem dX10_count_5 : decode cX10_count 5 = .ok (.iload_n 1, 1) := by decide +kernel
theorem dX10_count_6 : decode cX10_count 6 = .ok (.iconst 0, 1) := by decide +kernel
theorem dX10_count_7 : decode cX10_count 7 = .ok (.bipush 13, 2) := by decide +kernel
theorem dX10_count_9 : decode cX10_count 9 = .ok (.invokestatic 45, 3) := by decide +kernel
theorem dX10_count_12 : decode cX10_count 12 = .ok (.ifCond .eq 11, 3) := by decide +kernel
theorem dX10_count_15 : decode cX10_count 15 = .ok (.aload_n 0, 1) := by decide +kernel
theorem dX10_count_16 : decode cX10_count 16 = .ok (.iload_n 1, 1) := by decide +kernel
theorem dX10_count_17 : decode cX10_count 17 = .ok (.invokevirtual 181, 3) := by decide +kernel
theorem dX10_count_20 : decode cX10_count 20 = .ok (.goto 8, 3) := by decide +kernel
theorem dX10_count_23 : decode cX10_count 23 = .ok (.aload_n 0, 1) := by decide +kernel
theorem dX10_count_24 : decode cX10_count 24 = .ok (.iconst 1, 1) := by decide +kernel
theorem dX10_count_25 : decode cX10_count 25 = .ok (.invokevirtual 110, 3) := by decide +kernel
theorem dX10_count_28 : decode cX10_count 28 = .ok (.ireturn, 1) := by decide +kernel
theorem dX10_setting_0 : decode cX10_setting 0 = .ok (.aload_n 0, 1) := by decide +kernel
theorem dX10_setting_1 : decode cX10_setting 1 = .ok (.iconst 0, 1) := by decide +kernel
theorem dX10_setting_2 : decode cX10_setting 2 = .ok (.putfield 38, 3) := by decide +kernel
theorem dX10_setting_5 : decode cX10_setting 5 = .ok (.iload_n 1, 1) := by decide +kernel
theorem dX10_setting_6 : decode cX10_setting 6 = .ok (.iconst 0, 1) := by decide +kernel
theorem dX10_setting_7 : decode cX10_setting 7 = .ok (.iconst 4, 1) := by decide +kernel
theorem dX10_setting_8 : decode cX10_setting 8 = .ok (.invokestatic 45, 3) := by decide +kernel
theorem dX10_setting_11 : decode cX10_setting 11 = .ok (.ifCond .eq 12, 3) := by decide +kernel
theorem dX10_setting_14 : decode cX10_setting 14 = .ok (.aload_n 0, 1) := by decide +kernel
theorem dX10_setting_15 : decode cX10_setting 15 = .ok (.getfield 7, 3) := by decide +kernel
theorem dX10_setting_18 : decode cX10_setting 18 = .ok (.iload_n 1, 1) := by decide +kernel
theorem dX10_setting_19 : decode cX10_setting 19 = .ok (.iaload, 1) := by decide +kernel
theorem dX10_setting_20 : decode cX10_setting 20 = .ok (.goto 8, 3) := by decide +kernel
theorem dX10_setting_23 : decode cX10_setting 23 = .ok (.aload_n 0, 1) := by decide +kernel
theorem dX10_setting_24 : decode cX10_setting 24 = .ok (.iconst 1, 1) := by decide +kernel
theorem dX10_setting_25 : decode cX10_setting 25 = .ok (.invokevirtual 110, 3) := by decide +kernel
theorem dX10_setting_28 : decode cX10_setting 28 = .ok (.ireturn, 1) := by decide +kernel
theorem dX10_wholeIfRight_0 : decode cX10_wholeIfRight 0 = .ok (.aload_n 0, 1) := by decide +kernel
theorem dX10_wholeIfRight_1 : decode cX10_wholeIfRight 1 = .ok (.invokevirtual 103, 3) := by decide +kernel
theorem dX10_wholeIfRight_4 : decode cX10_wholeIfRight 4 = .ok (.aload_n 0, 1) := by decide +kernel
theorem dX10_wholeIfRight_5 : decode cX10_wholeIfRight 5 = .ok (.getfield 80, 3) := by decide +kernel
theorem dX10_wholeIfRight_8 : decode cX10_wholeIfRight 8 = .ok (.ifCond .ne 5, 3) := by decide +kernel
theorem dX10_wholeIfRight_11 : decode cX10_wholeIfRight 11 = .ok (.iconst (-1), 1) := by decide +kernel
theorem dX10_wholeIfRight_12 : decode cX10_wholeIfRight 12 = .ok (.ireturn, 1) := by decide +kernel
theorem dX10_wholeIfRight_13 : decode cX10_wholeIfRight 13 = .ok (.aload_n 0, 1) := by decide +kernel
theorem dX10_wholeIfRight_14 : decode cX10_wholeIfRight 14 = .ok (.getfield 26, 3) := by decide +kernel
theorem dX10_wholeIfRight_17 : decode cX10_wholeIfRight 17 = .ok (.iload_n 1, 1) := by decide +kernel
theorem dX10_wholeIfRight_18 : decode cX10_wholeIfRight 18 = .ok (.aload_n 0, 1) := by decide +kernel
theorem dX10_wholeIfRight_19 : decode cX10_wholeIfRight 19 = .ok (.iload_n 1, 1) := by decide +kernel
theorem dX10_wholeIfRight_20 : decode cX10_wholeIfRight 20 = .ok (.invokevirtual 68, 3) := by decide +kernel
theorem dX10_wholeIfRight_23 : decode cX10_wholeIfRight 23 = .ok (.iastore, 1) := by decide +kernel
theorem dX10_wholeIfRight_24 : decode cX10_wholeIfRight 24 = .ok (.aload_n 0, 1) := by decide +kernel
theorem dX10_wholeIfRight_25 : decode cX10_wholeIfRight 25 = .ok (.iload_n 1, 1) := by decide +kernel
theorem dX10_wholeIfRight_26 : decode cX10_wholeIfRight 26 = .ok (.invokevirtual 106, 3) := by decide +kernel
theorem dX10_wholeIfRight_29 : decode cX10_wholeIfRight 29 = .ok (.aload_n 0, 1) := by decide +kernel
theorem dX10_wholeIfRight_30 : decode cX10_wholeIfRight 30 = .ok (.iconst 0, 1) := by decide +kernel
theorem dX10_wholeIfRight_31 : decode cX10_wholeIfRight 31 = .ok (.aload_n 0, 1) := by decide +kernel
theorem dX10_wholeIfRight_32 : decode cX10_wholeIfRight 32 = .ok (.getfield 7, 3) := by decide +kernel
theorem dX10_wholeIfRight_35 : decode cX10_wholeIfRight 35 = .ok (.bipush 6, 2) := by decide +kernel
theorem dX10_wholeIfRight_37 : decode cX10_wholeIfRight 37 = .ok (.iaload, 1) := by decide +kernel
theorem dX10_wholeIfRight_38 : decode cX10_wholeIfRight 38 = .ok (.invokevirtual 163, 3) := by decide +kernel
theorem dX10_wholeIfRight_41 : decode cX10_wholeIfRight 41 = .ok (.ireturn, 1) := by decide +kernel
theorem dX10_ifRight_0 : decode cX10_ifRight 0 = .ok (.aload_n 0, 1) := by decide +kernel
theorem dX10_ifRight_1 : decode cX10_ifRight 1 = .ok (.iconst 0, 1) := by decide +kernel
theorem dX10_ifRight_2 : decode cX10_ifRight 2 = .ok (.putfield 38, 3) := by decide +kernel
theorem dX10_ifRight_5 : decode cX10_ifRight 5 = .ok (.aload_n 0, 1) := by decide +kernel
theorem dX10_ifRight_6 : decode cX10_ifRight 6 = .ok (.iload_n 1, 1) := by decide +kernel
theorem dX10_ifRight_7 : decode cX10_ifRight 7 = .ok (.invokevirtual 87, 3) := by decide +kernel
theorem dX10_ifRight_10 : decode cX10_ifRight 10 = .ok (.ifCond .eq 11, 3) := by decide +kernel
theorem dX10_ifRight_13 : decode cX10_ifRight 13 = .ok (.aload_n 0, 1) := by decide +kernel
theorem dX10_ifRight_14 : decode cX10_ifRight 14 = .ok (.iload_n 1, 1) := by decide +kernel
theorem dX10_ifRight_15 : decode cX10_ifRight 15 = .ok (.invokevirtual 184, 3) := by decide +kernel
theorem dX10_ifRight_18 : decode cX10_ifRight 18 = .ok (.goto 8, 3) := by decide +kernel
theorem dX10_ifRight_21 : decode cX10_ifRight 21 = .ok (.aload_n 0, 1) := by decide +kernel
theorem dX10_ifRight_22 : decode cX10_ifRight 22 = .ok (.iconst 1, 1) := by decide +kernel
theorem dX10_ifRight_23 : decode cX10_ifRight 23 = .ok (.invokevirtual 110, 3) := by decide +kernel
theorem dX10_ifRight_26 : decode cX10_ifRight 26 = .ok (.ireturn, 1) := by decide +kernel
theorem dX10_worstOne_0 : decode cX10_worstOne 0 = .ok (.aload_n 0, 1) := by decide +kernel
theorem dX10_worstOne_1 : decode cX10_worstOne 1 = .ok (.iconst 0, 1) := by decide +kernel
theorem dX10_worstOne_2 : decode cX10_worstOne 2 = .ok (.invokevirtual 175, 3) := by decide +kernel
theorem dX10_worstOne_5 : decode cX10_worstOne 5 = .ok (.istore_n 1, 1) := by decide +kernel
theorem dX10_worstOne_6 : decode cX10_worstOne 6 = .ok (.iconst (-1), 1) := by decide +kernel
theorem dX10_worstOne_7 : decode cX10_worstOne 7 = .ok (.istore_n 2, 1) := by decide +kernel
theorem dX10_worstOne_8 : decode cX10_worstOne 8 = .ok (.iconst (-1), 1) := by decide +kernel
theorem dX10_worstOne_9 : decode cX10_worstOne 9 = .ok (.istore_n 3, 1) := by decide +kernel
theorem dX10_worstOne_10 : decode cX10_worstOne 10 = .ok (.iconst 0, 1) := by decide +kernel
theorem dX10_worstOne_11 : decode cX10_worstOne 11 = .ok (.istore 4, 2) := by decide +kernel
theorem dX10_worstOne_13 : decode cX10_worstOne 13 = .ok (.iload 4, 2) := by decide +kernel
theorem dX10_worstOne_15 : decode cX10_worstOne 15 = .ok (.aload_n 0, 1) := by decide +kernel
theorem dX10_worstOne_16 : decode cX10_worstOne 16 = .ok (.getfield 7, 3) := by decide +kernel
theorem dX10_worstOne_19 : decode cX10_worstOne 19 = .ok (.bipush 6, 2) := by decide +kernel
theorem dX10_worstOne_21 : decode cX10_worstOne 21 = .ok (.iaload, 1) := by decide +kernel
theorem dX10_worstOne_22 : decode cX10_worstOne 22 = .ok (.if_icmp .ge 84, 3) := by decide +kernel
theorem dX10_worstOne_25 : decode cX10_worstOne 25 = .ok (.iload_n 1, 1) := by decide +kernel
theorem dX10_worstOne_26 : decode cX10_worstOne 26 = .ok (.iconst (-1), 1) := by decide +kernel
theorem dX10_worstOne_27 : decode cX10_worstOne 27 = .ok (.if_icmp .eq 79, 3) := by decide +kernel
theorem dX10_worstOne_30 : decode cX10_worstOne 30 = .ok (.aload_n 0, 1) := by decide +kernel
theorem dX10_worstOne_31 : decode cX10_worstOne 31 = .ok (.iload 4, 2) := by decide +kernel
theorem dX10_worstOne_33 : decode cX10_worstOne 33 = .ok (.invokevirtual 184, 3) := by decide +kernel
theorem dX10_worstOne_36 : decode cX10_worstOne 36 = .ok (.istore 5, 2) := by decide +kernel
theorem dX10_worstOne_38 : decode cX10_worstOne 38 = .ok (.iload 5, 2) := by decide +kernel
theorem dX10_worstOne_40 : decode cX10_worstOne 40 = .ok (.iload_n 1, 1) := by decide +kernel
theorem dX10_worstOne_41 : decode cX10_worstOne 41 = .ok (.if_icmp .le 10, 3) := by decide +kernel
theorem dX10_worstOne_44 : decode cX10_worstOne 44 = .ok (.iload 5, 2) := by decide +kernel
theorem dX10_worstOne_46 : decode cX10_worstOne 46 = .ok (.iload_n 1, 1) := by decide +kernel
theorem dX10_worstOne_47 : decode cX10_worstOne 47 = .ok (.isub, 1) := by decide +kernel
theorem dX10_worstOne_48 : decode cX10_worstOne 48 = .ok (.goto 7, 3) := by decide +kernel
theorem dX10_worstOne_51 : decode cX10_worstOne 51 = .ok (.iload_n 1, 1) := by decide +kernel
theorem dX10_worstOne_52 : decode cX10_worstOne 52 = .ok (.iload 5, 2) := by decide +kernel
theorem dX10_worstOne_54 : decode cX10_worstOne 54 = .ok (.isub, 1) := by decide +kernel
theorem dX10_worstOne_55 : decode cX10_worstOne 55 = .ok (.istore 6, 2) := by decide +kernel
theorem dX10_worstOne_57 : decode cX10_worstOne 57 = .ok (.iload 5, 2) := by decide +kernel
theorem dX10_worstOne_59 : decode cX10_worstOne 59 = .ok (.iconst (-1), 1) := by decide +kernel
theorem dX10_worstOne_60 : decode cX10_worstOne 60 = .ok (.if_icmp .eq 13, 3) := by decide +kernel
theorem dX10_worstOne_63 : decode cX10_worstOne 63 = .ok (.iload 6, 2) := by decide +kernel
theorem dX10_worstOne_65 : decode cX10_worstOne 65 = .ok (.iload_n 3, 1) := by decide +kernel
theorem dX10_worstOne_66 : decode cX10_worstOne 66 = .ok (.if_icmp .le 7, 3) := by decide +kernel
theorem dX10_worstOne_69 : decode cX10_worstOne 69 = .ok (.iconst 1, 1) := by decide +kernel
theorem dX10_worstOne_70 : decode cX10_worstOne 70 = .ok (.goto 4, 3) := by decide +kernel
theorem dX10_worstOne_73 : decode cX10_worstOne 73 = .ok (.iconst 0, 1) := by decide +kernel
theorem dX10_worstOne_74 : decode cX10_worstOne 74 = .ok (.istore 7, 2) := by decide +kernel
theorem dX10_worstOne_76 : decode cX10_worstOne 76 = .ok (.iload 7, 2) := by decide +kernel
theorem dX10_worstOne_78 : decode cX10_worstOne 78 = .ok (.ifCond .eq 8, 3) := by decide +kernel
theorem dX10_worstOne_81 : decode cX10_worstOne 81 = .ok (.iload 4, 2) := by decide +kernel
theorem dX10_worstOne_83 : decode cX10_worstOne 83 = .ok (.goto 4, 3) := by decide +kernel
theorem dX10_worstOne_86 : decode cX10_worstOne 86 = .ok (.iload_n 2, 1) := by decide +kernel
theorem dX10_worstOne_87 : decode cX10_worstOne 87 = .ok (.istore_n 2, 1) := by decide +kernel
theorem dX10_worstOne_88 : decode cX10_worstOne 88 = .ok (.iload 7, 2) := by decide +kernel
theorem dX10_worstOne_90 : decode cX10_worstOne 90 = .ok (.ifCond .eq 8, 3) := by decide +kernel
theorem dX10_worstOne_93 : decode cX10_worstOne 93 = .ok (.iload 6, 2) := by decide +kernel
theorem dX10_worstOne_95 : decode cX10_worstOne 95 = .ok (.goto 4, 3) := by decide +kernel
theorem dX10_worstOne_98 : decode cX10_worstOne 98 = .ok (.iload_n 3, 1) := by decide +kernel
theorem dX10_worstOne_99 : decode cX10_worstOne 99 = .ok (.istore_n 3, 1) := by decide +kernel
theorem dX10_worstOne_100 : decode cX10_worstOne 100 = .ok (.iinc 4 1, 3) := by decide +kernel
theorem dX10_worstOne_103 : decode cX10_worstOne 103 = .ok (.goto (-90), 3) := by decide +kernel
theorem dX10_worstOne_106 : decode cX10_worstOne 106 = .ok (.iload_n 2, 1) := by decide +kernel
theorem dX10_worstOne_107 : decode cX10_worstOne 107 = .ok (.ireturn, 1) := by decide +kernel
theorem dX10_worst_0 : decode cX10_worst 0 = .ok (.aload_n 0, 1) := by decide +kernel
theorem dX10_worst_1 : decode cX10_worst 1 = .ok (.iconst 0, 1) := by decide +kernel
theorem dX10_worst_2 : decode cX10_worst 2 = .ok (.putfield 38, 3) := by decide +kernel
theorem dX10_worst_5 : decode cX10_worst 5 = .ok (.aload_n 0, 1) := by decide +kernel
theorem dX10_worst_6 : decode cX10_worst 6 = .ok (.invokevirtual 187, 3) := by decide +kernel
theorem dX10_worst_9 : decode cX10_worst 9 = .ok (.ireturn, 1) := by decide +kernel
theorem dX10_ifRake_0 : decode cX10_ifRake 0 = .ok (.aload_n 0, 1) := by decide +kernel
theorem dX10_ifRake_1 : decode cX10_ifRake 1 = .ok (.iconst 0, 1) := by decide +kernel
theorem dX10_ifRake_2 : decode cX10_ifRake 2 = .ok (.putfield 38, 3) := by decide +kernel
theorem dX10_ifRake_5 : decode cX10_ifRake 5 = .ok (.iload_n 1, 1) := by decide +kernel
theorem dX10_ifRake_6 : decode cX10_ifRake 6 = .ok (.iconst 2, 1) := by decide +kernel
theorem dX10_ifRake_7 : decode cX10_ifRake 7 = .ok (.bipush 8, 2) := by decide +kernel
theorem dX10_ifRake_9 : decode cX10_ifRake 9 = .ok (.invokestatic 45, 3) := by decide +kernel
theorem dX10_ifRake_12 : decode cX10_ifRake 12 = .ok (.ifCond .eq 11, 3) := by decide +kernel
theorem dX10_ifRake_15 : decode cX10_ifRake 15 = .ok (.aload_n 0, 1) := by decide +kernel
theorem dX10_ifRake_16 : decode cX10_ifRake 16 = .ok (.iload_n 1, 1) := by decide +kernel
theorem dX10_ifRake_17 : decode cX10_ifRake 17 = .ok (.invokevirtual 172, 3) := by decide +kernel
theorem dX10_ifRake_20 : decode cX10_ifRake 20 = .ok (.goto 8, 3) := by decide +kernel
theorem dX10_ifRake_23 : decode cX10_ifRake 23 = .ok (.aload_n 0, 1) := by decide +kernel
theorem dX10_ifRake_24 : decode cX10_ifRake 24 = .ok (.iconst 1, 1) := by decide +kernel
theorem dX10_ifRake_25 : decode cX10_ifRake 25 = .ok (.invokevirtual 110, 3) := by decide +kernel
theorem dX10_ifRake_28 : decode cX10_ifRake 28 = .ok (.ireturn, 1) := by decide +kernel
theorem dX10_fine_0 : decode cX10_fine 0 = .ok (.iconst 2, 1) := by decide +kernel
theorem dX10_fine_1 : decode cX10_fine 1 = .ok (.istore_n 2, 1) := by decide +kernel
theorem dX10_fine_2 : decode cX10_fine 2 = .ok (.aload_n 0, 1) := by decide +kernel
theorem dX10_fine_3 : decode cX10_fine 3 = .ok (.iload_n 2, 1) := by decide +kernel
theorem dX10_fine_4 : decode cX10_fine 4 = .ok (.invokevirtual 172, 3) := by decide +kernel
theorem dX10_fine_7 : decode cX10_fine 7 = .ok (.aload_n 0, 1) := by decide +kernel
theorem dX10_fine_8 : decode cX10_fine 8 = .ok (.bipush 8, 2) := by decide +kernel
theorem dX10_fine_10 : decode cX10_fine 10 = .ok (.invokevirtual 172, 3) := by decide +kernel
theorem dX10_fine_13 : decode cX10_fine 13 = .ok (.isub, 1) := by decide +kernel
theorem dX10_fine_14 : decode cX10_fine 14 = .ok (.istore_n 3, 1) := by decide +kernel
theorem dX10_fine_15 : decode cX10_fine 15 = .ok (.iload_n 3, 1) := by decide +kernel
theorem dX10_fine_16 : decode cX10_fine 16 = .ok (.iload_n 1, 1) := by decide +kernel
theorem dX10_fine_17 : decode cX10_fine 17 = .ok (.if_icmp .gt 9, 3) := by decide +kernel
theorem dX10_fine_20 : decode cX10_fine 20 = .ok (.iload_n 3, 1) := by decide +kernel
theorem dX10_fine_21 : decode cX10_fine 21 = .ok (.ineg, 1) := by decide +kernel
theorem dX10_fine_22 : decode cX10_fine 22 = .ok (.iload_n 1, 1) := by decide +kernel
theorem dX10_fine_23 : decode cX10_fine 23 = .ok (.if_icmp .le 22, 3) := by decide +kernel
theorem dX10_fine_26 : decode cX10_fine 26 = .ok (.iinc 2 1, 3) := by decide +kernel
theorem dX10_fine_29 : decode cX10_fine 29 = .ok (.aload_n 0, 1) := by decide +kernel
theorem dX10_fine_30 : decode cX10_fine 30 = .ok (.iload_n 2, 1) := by decide +kernel
theorem dX10_fine_31 : decode cX10_fine 31 = .ok (.invokevirtual 172, 3) := by decide +kernel
theorem dX10_fine_34 : decode cX10_fine 34 = .ok (.aload_n 0, 1) := by decide +kernel
theorem dX10_fine_35 : decode cX10_fine 35 = .ok (.bipush 8, 2) := by decide +kernel
theorem dX10_fine_37 : decode cX10_fine 37 = .ok (.invokevirtual 172, 3) := by decide +kernel
theorem dX10_fine_40 : decode cX10_fine 40 = .ok (.isub, 1) := by decide +kernel
theorem dX10_fine_41 : decode cX10_fine 41 = .ok (.istore_n 3, 1) := by decide +kernel
theorem dX10_fine_42 : decode cX10_fine 42 = .ok (.goto (-27), 3) := by decide +kernel
theorem dX10_fine_45 : decode cX10_fine 45 = .ok (.iload_n 2, 1) := by decide +kernel
theorem dX10_fine_46 : decode cX10_fine 46 = .ok (.ireturn, 1) := by decide +kernel
theorem dX10_fineRake_0 : decode cX10_fineRake 0 = .ok (.aload_n 0, 1) := by decide +kernel
theorem dX10_fineRake_1 : decode cX10_fineRake 1 = .ok (.iconst 0, 1) := by decide +kernel
theorem dX10_fineRake_2 : decode cX10_fineRake 2 = .ok (.putfield 38, 3) := by decide +kernel
theorem dX10_fineRake_5 : decode cX10_fineRake 5 = .ok (.iload_n 1, 1) := by decide +kernel
theorem dX10_fineRake_6 : decode cX10_fineRake 6 = .ok (.iconst 0, 1) := by decide +kernel
theorem dX10_fineRake_7 : decode cX10_fineRake 7 = .ok (.ldc 150, 2) := by decide +kernel
theorem dX10_fineRake_9 : decode cX10_fineRake 9 = .ok (.invokestatic 45, 3) := by decide +kernel
theorem dX10_fineRake_12 : decode cX10_fineRake 12 = .ok (.ifCond .eq 11, 3) := by decide +kernel
theorem dX10_fineRake_15 : decode cX10_fineRake 15 = .ok (.aload_n 0, 1) := by decide +kernel
theorem dX10_fineRake_16 : decode cX10_fineRake 16 = .ok (.iload_n 1, 1) := by decide +kernel
theorem dX10_fineRake_17 : decode cX10_fineRake 17 = .ok (.invokevirtual 190, 3) := by decide +kernel
theorem dX10_fineRake_20 : decode cX10_fineRake 20 = .ok (.goto 8, 3) := by decide +kernel
theorem dX10_fineRake_23 : decode cX10_fineRake 23 = .ok (.aload_n 0, 1) := by decide +kernel
theorem dX10_fineRake_24 : decode cX10_fineRake 24 = .ok (.iconst 1, 1) := by decide +kernel
theorem dX10_fineRake_25 : decode cX10_fineRake 25 = .ok (.invokevirtual 110, 3) := by decide +kernel
theorem dX10_fineRake_28 : decode cX10_fineRake 28 = .ok (.ireturn, 1) := by decide +kernel
theorem dX10_even_0 : decode cX10_even 0 = .ok (.aload_n 0, 1) := by decide +kernel
theorem dX10_even_1 : decode cX10_even 1 = .ok (.invokevirtual 160, 3) := by decide +kernel
theorem dX10_even_4 : decode cX10_even 4 = .ok (.iconst 0, 1) := by decide +kernel
theorem dX10_even_5 : decode cX10_even 5 = .ok (.istore_n 1, 1) := by decide +kernel
theorem dX10_even_6 : decode cX10_even 6 = .ok (.iconst 0, 1) := by decide +kernel
theorem dX10_even_7 : decode cX10_even 7 = .ok (.istore_n 2, 1) := by decide +kernel
theorem dX10_even_8 : decode cX10_even 8 = .ok (.iconst 0, 1) := by decide +kernel
theorem dX10_even_9 : decode cX10_even 9 = .ok (.istore_n 3, 1) := by decide +kernel
theorem dX10_even_10 : decode cX10_even 10 = .ok (.iload_n 3, 1) := by decide +kernel
theorem dX10_even_11 : decode cX10_even 11 = .ok (.aload_n 0, 1) := by decide +kernel
theorem dX10_even_12 : decode cX10_even 12 = .ok (.getfield 7, 3) := by decide +kernel
theorem dX10_even_15 : decode cX10_even 15 = .ok (.bipush 6, 2) := by decide +kernel
theorem dX10_even_17 : decode cX10_even 17 = .ok (.iaload, 1) := by decide +kernel
theorem dX10_even_18 : decode cX10_even 18 = .ok (.if_icmp .ge 62, 3) := by decide +kernel
theorem dX10_even_21 : decode cX10_even 21 = .ok (.aload_n 0, 1) := by decide +kernel
theorem dX10_even_22 : decode cX10_even 22 = .ok (.getfield 93, 3) := by decide +kernel
theorem dX10_even_25 : decode cX10_even 25 = .ok (.ifCond .le 55, 3) := by decide +kernel
theorem dX10_even_28 : decode cX10_even 28 = .ok (.iload_n 3, 1) := by decide +kernel
theorem dX10_even_29 : decode cX10_even 29 = .ok (.ifCond .eq 13, 3) := by decide +kernel
theorem dX10_even_32 : decode cX10_even 32 = .ok (.aload_n 0, 1) := by decide +kernel
theorem dX10_even_33 : decode cX10_even 33 = .ok (.getfield 32, 3) := by decide +kernel
theorem dX10_even_36 : decode cX10_even 36 = .ok (.iload_n 3, 1) := by decide +kernel
theorem dX10_even_37 : decode cX10_even 37 = .ok (.iaload, 1) := by decide +kernel
theorem dX10_even_38 : decode cX10_even 38 = .ok (.iload_n 1, 1) := by decide +kernel
theorem dX10_even_39 : decode cX10_even 39 = .ok (.if_icmp .ge 12, 3) := by decide +kernel
theorem dX10_even_42 : decode cX10_even 42 = .ok (.aload_n 0, 1) := by decide +kernel
theorem dX10_even_43 : decode cX10_even 43 = .ok (.getfield 32, 3) := by decide +kernel
theorem dX10_even_46 : decode cX10_even 46 = .ok (.iload_n 3, 1) := by decide +kernel
theorem dX10_even_47 : decode cX10_even 47 = .ok (.iaload, 1) := by decide +kernel
theorem dX10_even_48 : decode cX10_even 48 = .ok (.goto 4, 3) := by decide +kernel
theorem dX10_even_51 : decode cX10_even 51 = .ok (.iload_n 1, 1) := by decide +kernel
theorem dX10_even_52 : decode cX10_even 52 = .ok (.istore_n 1, 1) := by decide +kernel
theorem dX10_even_53 : decode cX10_even 53 = .ok (.aload_n 0, 1) := by decide +kernel
theorem dX10_even_54 : decode cX10_even 54 = .ok (.getfield 32, 3) := by decide +kernel
theorem dX10_even_57 : decode cX10_even 57 = .ok (.iload_n 3, 1) := by decide +kernel
theorem dX10_even_58 : decode cX10_even 58 = .ok (.iaload, 1) := by decide +kernel
theorem dX10_even_59 : decode cX10_even 59 = .ok (.iload_n 2, 1) := by decide +kernel
theorem dX10_even_60 : decode cX10_even 60 = .ok (.if_icmp .le 12, 3) := by decide +kernel
theorem dX10_even_63 : decode cX10_even 63 = .ok (.aload_n 0, 1) := by decide +kernel
theorem dX10_even_64 : decode cX10_even 64 = .ok (.getfield 32, 3) := by decide +kernel
theorem dX10_even_67 : decode cX10_even 67 = .ok (.iload_n 3, 1) := by decide +kernel
theorem dX10_even_68 : decode cX10_even 68 = .ok (.iaload, 1) := by decide +kernel
theorem dX10_even_69 : decode cX10_even 69 = .ok (.goto 4, 3) := by decide +kernel
theorem dX10_even_72 : decode cX10_even 72 = .ok (.iload_n 2, 1) := by decide +kernel
theorem dX10_even_73 : decode cX10_even 73 = .ok (.istore_n 2, 1) := by decide +kernel
theorem dX10_even_74 : decode cX10_even 74 = .ok (.iinc 3 1, 3) := by decide +kernel
theorem dX10_even_77 : decode cX10_even 77 = .ok (.goto (-67), 3) := by decide +kernel
theorem dX10_even_80 : decode cX10_even 80 = .ok (.iload_n 2, 1) := by decide +kernel
theorem dX10_even_81 : decode cX10_even 81 = .ok (.ifCond .ne 7, 3) := by decide +kernel
theorem dX10_even_84 : decode cX10_even 84 = .ok (.dconst 0, 1) := by decide +kernel
theorem dX10_even_85 : decode cX10_even 85 = .ok (.goto 8, 3) := by decide +kernel
theorem dX10_even_88 : decode cX10_even 88 = .ok (.iload_n 1, 1) := by decide +kernel
theorem dX10_even_89 : decode cX10_even 89 = .ok (.i2d, 1) := by decide +kernel
theorem dX10_even_90 : decode cX10_even 90 = .ok (.iload_n 2, 1) := by decide +kernel
theorem dX10_even_91 : decode cX10_even 91 = .ok (.i2d, 1) := by decide +kernel
theorem dX10_even_92 : decode cX10_even 92 = .ok (.ddiv, 1) := by decide +kernel
theorem dX10_even_93 : decode cX10_even 93 = .ok (.dreturn, 1) := by decide +kernel
theorem dX10_evenness_0 : decode cX10_evenness 0 = .ok (.aload_n 0, 1) := by decide +kernel
theorem dX10_evenness_1 : decode cX10_evenness 1 = .ok (.iconst 0, 1) := by decide +kernel
theorem dX10_evenness_2 : decode cX10_evenness 2 = .ok (.putfield 38, 3) := by decide +kernel
theorem dX10_evenness_5 : decode cX10_evenness 5 = .ok (.aload_n 0, 1) := by decide +kernel
theorem dX10_evenness_6 : decode cX10_evenness 6 = .ok (.invokevirtual 193, 3) := by decide +kernel
theorem dX10_evenness_9 : decode cX10_evenness 9 = .ok (.dreturn, 1) := by decide +kernel
theorem dX10_hashes_0 : decode cX10_hashes 0 = .ok (.aload_n 0, 1) := by decide +kernel
theorem dX10_hashes_1 : decode cX10_hashes 1 = .ok (.ldc2_w 197, 3) := by decide +kernel
theorem dX10_hashes_4 : decode cX10_hashes 4 = .ok (.aload_n 0, 1) := by decide +kernel
theorem dX10_hashes_5 : decode cX10_hashes 5 = .ok (.getfield 199, 3) := by decide +kernel
theorem dX10_hashes_8 : decode cX10_hashes 8 = .ok (.lmul, 1) := by decide +kernel
theorem dX10_hashes_9 : decode cX10_hashes 9 = .ok (.lload_n 1, 1) := by decide +kernel
theorem dX10_hashes_10 : decode cX10_hashes 10 = .ok (.ladd, 1) := by decide +kernel
theorem dX10_hashes_11 : decode cX10_hashes 11 = .ok (.putfield 199, 3) := by decide +kernel
theorem dX10_hashes_14 : decode cX10_hashes 14 = .ok (.return_, 1) := by decide +kernel
theorem dX10_hashesHole_0 : decode cX10_hashesHole 0 = .ok (.iconst 0, 1) := by decide +kernel
theorem dX10_hashesHole_1 : decode cX10_hashesHole 1 = .ok (.istore_n 2, 1) := by decide +kernel
theorem dX10_hashesHole_2 : decode cX10_hashesHole 2 = .ok (.iload_n 2, 1) := by decide +kernel
theorem dX10_hashesHole_3 : decode cX10_hashesHole 3 = .ok (.bipush 12, 2) := by decide +kernel
theorem dX10_hashesHole_5 : decode cX10_hashesHole 5 = .ok (.if_icmp .ge 20, 3) := by decide +kernel
theorem dX10_hashesHole_8 : decode cX10_hashesHole 8 = .ok (.aload_n 0, 1) := by decide +kernel
theorem dX10_hashesHole_9 : decode cX10_hashesHole 9 = .ok (.aload_n 0, 1) := by decide +kernel
theorem dX10_hashesHole_10 : decode cX10_hashesHole 10 = .ok (.iload_n 1, 1) := by decide +kernel
theorem dX10_hashesHole_11 : decode cX10_hashesHole 11 = .ok (.iload_n 2, 1) := by decide +kernel
theorem dX10_hashesHole_12 : decode cX10_hashesHole 12 = .ok (.invokevirtual 166, 3) := by decide +kernel
theorem dX10_hashesHole_15 : decode cX10_hashesHole 15 = .ok (.i2l, 1) := by decide +kernel
theorem dX10_hashesHole_16 : decode cX10_hashesHole 16 = .ok (.invokevirtual 203, 3) := by decide +kernel
theorem dX10_hashesHole_19 : decode cX10_hashesHole 19 = .ok (.iinc 2 1, 3) := by decide +kernel
theorem dX10_hashesHole_22 : decode cX10_hashesHole 22 = .ok (.goto (-20), 3) := by decide +kernel
theorem dX10_hashesHole_25 : decode cX10_hashesHole 25 = .ok (.aload_n 0, 1) := by decide +kernel
theorem dX10_hashesHole_26 : decode cX10_hashesHole 26 = .ok (.aload_n 0, 1) := by decide +kernel
theorem dX10_hashesHole_27 : decode cX10_hashesHole 27 = .ok (.iload_n 1, 1) := by decide +kernel
theorem dX10_hashesHole_28 : decode cX10_hashesHole 28 = .ok (.invokevirtual 184, 3) := by decide +kernel
theorem dX10_hashesHole_31 : decode cX10_hashesHole 31 = .ok (.i2l, 1) := by decide +kernel
theorem dX10_hashesHole_32 : decode cX10_hashesHole 32 = .ok (.invokevirtual 203, 3) := by decide +kernel
theorem dX10_hashesHole_35 : decode cX10_hashesHole 35 = .ok (.return_, 1) := by decide +kernel
theorem dX10_digest_0 : decode cX10_digest 0 = .ok (.aload_n 0, 1) := by decide +kernel
theorem dX10_digest_1 : decode cX10_digest 1 = .ok (.iconst 0, 1) := by decide +kernel
theorem dX10_digest_2 : decode cX10_digest 2 = .ok (.putfield 38, 3) := by decide +kernel
theorem dX10_digest_5 : decode cX10_digest 5 = .ok (.aload_n 0, 1) := by decide +kernel
theorem dX10_digest_6 : decode cX10_digest 6 = .ok (.ldc2_w 207, 3) := by decide +kernel
theorem dX10_digest_9 : decode cX10_digest 9 = .ok (.putfield 199, 3) := by decide +kernel
theorem dX10_digest_12 : decode cX10_digest 12 = .ok (.iconst 0, 1) := by decide +kernel
theorem dX10_digest_13 : decode cX10_digest 13 = .ok (.istore_n 1, 1) := by decide +kernel
theorem dX10_digest_14 : decode cX10_digest 14 = .ok (.iload_n 1, 1) := by decide +kernel
theorem dX10_digest_15 : decode cX10_digest 15 = .ok (.bipush 14, 2) := by decide +kernel
theorem dX10_digest_17 : decode cX10_digest 17 = .ok (.if_icmp .ge 19, 3) := by decide +kernel
theorem dX10_digest_20 : decode cX10_digest 20 = .ok (.aload_n 0, 1) := by decide +kernel
theorem dX10_digest_21 : decode cX10_digest 21 = .ok (.aload_n 0, 1) := by decide +kernel
theorem dX10_digest_22 : decode cX10_digest 22 = .ok (.iload_n 1, 1) := by decide +kernel
theorem dX10_digest_23 : decode cX10_digest 23 = .ok (.invokevirtual 181, 3) := by decide +kernel
theorem dX10_digest_26 : decode cX10_digest 26 = .ok (.i2l, 1) := by decide +kernel
theorem dX10_digest_27 : decode cX10_digest 27 = .ok (.invokevirtual 203, 3) := by decide +kernel
theorem dX10_digest_30 : decode cX10_digest 30 = .ok (.iinc 1 1, 3) := by decide +kernel
theorem dX10_digest_33 : decode cX10_digest 33 = .ok (.goto (-19), 3) := by decide +kernel
theorem dX10_digest_36 : decode cX10_digest 36 = .ok (.iconst 0, 1) := by decide +kernel
theorem dX10_digest_37 : decode cX10_digest 37 = .ok (.istore_n 1, 1) := by decide +kernel
theorem dX10_digest_38 : decode cX10_digest 38 = .ok (.iload_n 1, 1) := by decide +kernel
theorem dX10_digest_39 : decode cX10_digest 39 = .ok (.iconst 5, 1) := by decide +kernel
theorem dX10_digest_40 : decode cX10_digest 40 = .ok (.if_icmp .ge 20, 3) := by decide +kernel
theorem dX10_digest_43 : decode cX10_digest 43 = .ok (.aload_n 0, 1) := by decide +kernel
theorem dX10_digest_44 : decode cX10_digest 44 = .ok (.aload_n 0, 1) := by decide +kernel
theorem dX10_digest_45 : decode cX10_digest 45 = .ok (.getfield 7, 3) := by decide +kernel
theorem dX10_digest_48 : decode cX10_digest 48 = .ok (.iload_n 1, 1) := by decide +kernel
theorem dX10_digest_49 : decode cX10_digest 49 = .ok (.iaload, 1) := by decide +kernel
theorem dX10_digest_50 : decode cX10_digest 50 = .ok (.i2l, 1) := by decide +kernel
theorem dX10_digest_51 : decode cX10_digest 51 = .ok (.invokevirtual 203, 3) := by decide +kernel
theorem dX10_digest_54 : decode cX10_digest 54 = .ok (.iinc 1 1, 3) := by decide +kernel
theorem dX10_digest_57 : decode cX10_digest 57 = .ok (.goto (-19), 3) := by decide +kernel
theorem dX10_digest_60 : decode cX10_digest 60 = .ok (.iconst 0, 1) := by decide +kernel
theorem dX10_digest_61 : decode cX10_digest 61 = .ok (.istore_n 1, 1) := by decide +kernel
theorem dX10_digest_62 : decode cX10_digest 62 = .ok (.iload_n 1, 1) := by decide +kernel
theorem dX10_digest_63 : decode cX10_digest 63 = .ok (.aload_n 0, 1) := by decide +kernel
theorem dX10_digest_64 : decode cX10_digest 64 = .ok (.getfield 7, 3) := by decide +kernel
theorem dX10_digest_67 : decode cX10_digest 67 = .ok (.bipush 6, 2) := by decide +kernel
theorem dX10_digest_69 : decode cX10_digest 69 = .ok (.iaload, 1) := by decide +kernel
theorem dX10_digest_70 : decode cX10_digest 70 = .ok (.if_icmp .ge 14, 3) := by decide +kernel
theorem dX10_digest_73 : decode cX10_digest 73 = .ok (.aload_n 0, 1) := by decide +kernel
theorem dX10_digest_74 : decode cX10_digest 74 = .ok (.iload_n 1, 1) := by decide +kernel
theorem dX10_digest_75 : decode cX10_digest 75 = .ok (.invokevirtual 209, 3) := by decide +kernel
theorem dX10_digest_78 : decode cX10_digest 78 = .ok (.iinc 1 1, 3) := by decide +kernel
theorem dX10_digest_81 : decode cX10_digest 81 = .ok (.goto (-19), 3) := by decide +kernel
theorem dX10_digest_84 : decode cX10_digest 84 = .ok (.iconst 0, 1) := by decide +kernel
theorem dX10_digest_85 : decode cX10_digest 85 = .ok (.istore_n 1, 1) := by decide +kernel
theorem dX10_digest_86 : decode cX10_digest 86 = .ok (.iload_n 1, 1) := by decide +kernel
theorem dX10_digest_87 : decode cX10_digest 87 = .ok (.bipush 11, 2) := by decide +kernel
theorem dX10_digest_89 : decode cX10_digest 89 = .ok (.aload_n 0, 1) := by decide +kernel
theorem dX10_digest_90 : decode cX10_digest 90 = .ok (.getfield 7, 3) := by decide +kernel
theorem dX10_digest_93 : decode cX10_digest 93 = .ok (.bipush 7, 2) := by decide +kernel
theorem dX10_digest_95 : decode cX10_digest 95 = .ok (.iaload, 1) := by decide +kernel
theorem dX10_digest_96 : decode cX10_digest 96 = .ok (.imul, 1) := by decide +kernel
theorem dX10_digest_97 : decode cX10_digest 97 = .ok (.if_icmp .ge 26, 3) := by decide +kernel
theorem dX10_digest_100 : decode cX10_digest 100 = .ok (.aload_n 0, 1) := by decide +kernel
theorem dX10_digest_101 : decode cX10_digest 101 = .ok (.aload_n 0, 1) := by decide +kernel
theorem dX10_digest_102 : decode cX10_digest 102 = .ok (.iload_n 1, 1) := by decide +kernel
theorem dX10_digest_103 : decode cX10_digest 103 = .ok (.bipush 11, 2) := by decide +kernel
theorem dX10_digest_105 : decode cX10_digest 105 = .ok (.idiv, 1) := by decide +kernel
theorem dX10_digest_106 : decode cX10_digest 106 = .ok (.iload_n 1, 1) := by decide +kernel
theorem dX10_digest_107 : decode cX10_digest 107 = .ok (.bipush 11, 2) := by decide +kernel
theorem dX10_digest_109 : decode cX10_digest 109 = .ok (.irem, 1) := by decide +kernel
theorem dX10_digest_110 : decode cX10_digest 110 = .ok (.invokevirtual 169, 3) := by decide +kernel
theorem dX10_digest_113 : decode cX10_digest 113 = .ok (.i2l, 1) := by decide +kernel
theorem dX10_digest_114 : decode cX10_digest 114 = .ok (.invokevirtual 203, 3) := by decide +kernel
theorem dX10_digest_117 : decode cX10_digest 117 = .ok (.iinc 1 1, 3) := by decide +kernel
theorem dX10_digest_120 : decode cX10_digest 120 = .ok (.goto (-34), 3) := by decide +kernel
theorem dX10_digest_123 : decode cX10_digest 123 = .ok (.iconst 0, 1) := by decide +kernel
theorem dX10_digest_124 : decode cX10_digest 124 = .ok (.istore_n 1, 1) := by decide +kernel
theorem dX10_digest_125 : decode cX10_digest 125 = .ok (.iload_n 1, 1) := by decide +kernel
theorem dX10_digest_126 : decode cX10_digest 126 = .ok (.iconst 4, 1) := by decide +kernel
theorem dX10_digest_127 : decode cX10_digest 127 = .ok (.if_icmp .ge 19, 3) := by decide +kernel
theorem dX10_digest_130 : decode cX10_digest 130 = .ok (.aload_n 0, 1) := by decide +kernel
theorem dX10_digest_131 : decode cX10_digest 131 = .ok (.aload_n 0, 1) := by decide +kernel
theorem dX10_digest_132 : decode cX10_digest 132 = .ok (.iload_n 1, 1) := by decide +kernel
theorem dX10_digest_133 : decode cX10_digest 133 = .ok (.invokevirtual 175, 3) := by decide +kernel
theorem dX10_digest_136 : decode cX10_digest 136 = .ok (.i2l, 1) := by decide +kernel
