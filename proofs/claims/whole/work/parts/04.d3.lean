theorem dX8_impliesClause_20 : decode cX8_impliesClause 20 = .ok (.iconst 0, 1) := by decide +kernel
theorem dX8_impliesClause_21 : decode cX8_impliesClause 21 = .ok (.ireturn, 1) := by decide +kernel
theorem dX8_impliesClause_22 : decode cX8_impliesClause 22 = .ok (.aload_n 0, 1) := by decide +kernel
theorem dX8_impliesClause_23 : decode cX8_impliesClause 23 = .ok (.iconst 0, 1) := by decide +kernel
theorem dX8_impliesClause_24 : decode cX8_impliesClause 24 = .ok (.iload_n 1, 1) := by decide +kernel
theorem dX8_impliesClause_25 : decode cX8_impliesClause 25 = .ok (.iload_n 2, 1) := by decide +kernel
theorem dX8_impliesClause_26 : decode cX8_impliesClause 26 = .ok (.invokevirtual 196, 3) := by decide +kernel
theorem dX8_impliesClause_29 : decode cX8_impliesClause 29 = .ok (.ireturn, 1) := by decide +kernel
theorem dX8_impliesParity_0 : decode cX8_impliesParity 0 = .ok (.aload_n 0, 1) := by decide +kernel
theorem dX8_impliesParity_1 : decode cX8_impliesParity 1 = .ok (.iload_n 1, 1) := by decide +kernel
theorem dX8_impliesParity_2 : decode cX8_impliesParity 2 = .ok (.iload_n 2, 1) := by decide +kernel
theorem dX8_impliesParity_3 : decode cX8_impliesParity 3 = .ok (.invokestatic 164, 3) := by decide +kernel
theorem dX8_impliesParity_6 : decode cX8_impliesParity 6 = .ok (.ifCond .eq 7, 3) := by decide +kernel
theorem dX8_impliesParity_9 : decode cX8_impliesParity 9 = .ok (.iconst 0, 1) := by decide +kernel
theorem dX8_impliesParity_10 : decode cX8_impliesParity 10 = .ok (.goto 4, 3) := by decide +kernel
theorem dX8_impliesParity_13 : decode cX8_impliesParity 13 = .ok (.iconst 1, 1) := by decide +kernel
theorem dX8_impliesParity_14 : decode cX8_impliesParity 14 = .ok (.invokevirtual 118, 3) := by decide +kernel
theorem dX8_impliesParity_17 : decode cX8_impliesParity 17 = .ok (.ifCond .eq 5, 3) := by decide +kernel
theorem dX8_impliesParity_20 : decode cX8_impliesParity 20 = .ok (.iconst 0, 1) := by decide +kernel
theorem dX8_impliesParity_21 : decode cX8_impliesParity 21 = .ok (.ireturn, 1) := by decide +kernel
theorem dX8_impliesParity_22 : decode cX8_impliesParity 22 = .ok (.aload_n 0, 1) := by decide +kernel
theorem dX8_impliesParity_23 : decode cX8_impliesParity 23 = .ok (.iconst 1, 1) := by decide +kernel
theorem dX8_impliesParity_24 : decode cX8_impliesParity 24 = .ok (.iload_n 1, 1) := by decide +kernel
theorem dX8_impliesParity_25 : decode cX8_impliesParity 25 = .ok (.iload_n 2, 1) := by decide +kernel
theorem dX8_impliesParity_26 : decode cX8_impliesParity 26 = .ok (.invokevirtual 196, 3) := by decide +kernel
theorem dX8_impliesParity_29 : decode cX8_impliesParity 29 = .ok (.ireturn, 1) := by decide +kernel
theorem dX8_hasModel_0 : decode cX8_hasModel 0 = .ok (.iconst 0, 1) := by decide +kernel
theorem dX8_hasModel_1 : decode cX8_hasModel 1 = .ok (.istore_n 2, 1) := by decide +kernel
theorem dX8_hasModel_2 : decode cX8_hasModel 2 = .ok (.iconst 0, 1) := by decide +kernel
theorem dX8_hasModel_3 : decode cX8_hasModel 3 = .ok (.istore_n 3, 1) := by decide +kernel
theorem dX8_hasModel_4 : decode cX8_hasModel 4 = .ok (.iload_n 3, 1) := by decide +kernel
theorem dX8_hasModel_5 : decode cX8_hasModel 5 = .ok (.sipush 255, 3) := by decide +kernel
theorem dX8_hasModel_8 : decode cX8_hasModel 8 = .ok (.if_icmp .gt 20, 3) := by decide +kernel
theorem dX8_hasModel_11 : decode cX8_hasModel 11 = .ok (.iload_n 2, 1) := by decide +kernel
theorem dX8_hasModel_12 : decode cX8_hasModel 12 = .ok (.ifCond .ne 16, 3) := by decide +kernel
theorem dX8_hasModel_15 : decode cX8_hasModel 15 = .ok (.aload_n 0, 1) := by decide +kernel
theorem dX8_hasModel_16 : decode cX8_hasModel 16 = .ok (.iload_n 3, 1) := by decide +kernel
theorem dX8_hasModel_17 : decode cX8_hasModel 17 = .ok (.iload_n 1, 1) := by decide +kernel
theorem dX8_hasModel_18 : decode cX8_hasModel 18 = .ok (.invokevirtual 193, 3) := by decide +kernel
theorem dX8_hasModel_21 : decode cX8_hasModel 21 = .ok (.istore_n 2, 1) := by decide +kernel
theorem dX8_hasModel_22 : decode cX8_hasModel 22 = .ok (.iinc 3 1, 3) := by decide +kernel
theorem dX8_hasModel_25 : decode cX8_hasModel 25 = .ok (.goto (-21), 3) := by decide +kernel
theorem dX8_hasModel_28 : decode cX8_hasModel 28 = .ok (.iload_n 2, 1) := by decide +kernel
theorem dX8_hasModel_29 : decode cX8_hasModel 29 = .ok (.ireturn, 1) := by decide +kernel
theorem dX8_core_0 : decode cX8_core 0 = .ok (.aload_n 0, 1) := by decide +kernel
theorem dX8_core_1 : decode cX8_core 1 = .ok (.iconst 0, 1) := by decide +kernel
theorem dX8_core_2 : decode cX8_core 2 = .ok (.putfield 51, 3) := by decide +kernel
theorem dX8_core_5 : decode cX8_core 5 = .ok (.aload_n 0, 1) := by decide +kernel
theorem dX8_core_6 : decode cX8_core 6 = .ok (.invokevirtual 190, 3) := by decide +kernel
theorem dX8_core_9 : decode cX8_core 9 = .ok (.istore_n 1, 1) := by decide +kernel
theorem dX8_core_10 : decode cX8_core 10 = .ok (.aload_n 0, 1) := by decide +kernel
theorem dX8_core_11 : decode cX8_core 11 = .ok (.iload_n 1, 1) := by decide +kernel
theorem dX8_core_12 : decode cX8_core 12 = .ok (.invokevirtual 200, 3) := by decide +kernel
theorem dX8_core_15 : decode cX8_core 15 = .ok (.ifCond .eq 6, 3) := by decide +kernel
theorem dX8_core_18 : decode cX8_core 18 = .ok (.bipush (-9), 2) := by decide +kernel
theorem dX8_core_20 : decode cX8_core 20 = .ok (.ireturn, 1) := by decide +kernel
theorem dX8_core_21 : decode cX8_core 21 = .ok (.iconst 0, 1) := by decide +kernel
theorem dX8_core_22 : decode cX8_core 22 = .ok (.istore_n 2, 1) := by decide +kernel
theorem dX8_core_23 : decode cX8_core 23 = .ok (.iload_n 2, 1) := by decide +kernel
theorem dX8_core_24 : decode cX8_core 24 = .ok (.aload_n 0, 1) := by decide +kernel
theorem dX8_core_25 : decode cX8_core 25 = .ok (.getfield 7, 3) := by decide +kernel
theorem dX8_core_28 : decode cX8_core 28 = .ok (.iconst 0, 1) := by decide +kernel
theorem dX8_core_29 : decode cX8_core 29 = .ok (.iaload, 1) := by decide +kernel
theorem dX8_core_30 : decode cX8_core 30 = .ok (.if_icmp .ge 35, 3) := by decide +kernel
theorem dX8_core_33 : decode cX8_core 33 = .ok (.aload_n 0, 1) := by decide +kernel
theorem dX8_core_34 : decode cX8_core 34 = .ok (.iload_n 1, 1) := by decide +kernel
theorem dX8_core_35 : decode cX8_core 35 = .ok (.iconst 1, 1) := by decide +kernel
theorem dX8_core_36 : decode cX8_core 36 = .ok (.iload_n 2, 1) := by decide +kernel
theorem dX8_core_37 : decode cX8_core 37 = .ok (.ishl, 1) := by decide +kernel
theorem dX8_core_38 : decode cX8_core 38 = .ok (.iconst (-1), 1) := by decide +kernel
theorem dX8_core_39 : decode cX8_core 39 = .ok (.ixor, 1) := by decide +kernel
theorem dX8_core_40 : decode cX8_core 40 = .ok (.iand, 1) := by decide +kernel
theorem dX8_core_41 : decode cX8_core 41 = .ok (.invokevirtual 200, 3) := by decide +kernel
theorem dX8_core_44 : decode cX8_core 44 = .ok (.ifCond .eq 7, 3) := by decide +kernel
theorem dX8_core_47 : decode cX8_core 47 = .ok (.iload_n 1, 1) := by decide +kernel
theorem dX8_core_48 : decode cX8_core 48 = .ok (.goto 10, 3) := by decide +kernel
theorem dX8_core_51 : decode cX8_core 51 = .ok (.iload_n 1, 1) := by decide +kernel
theorem dX8_core_52 : decode cX8_core 52 = .ok (.iconst 1, 1) := by decide +kernel
theorem dX8_core_53 : decode cX8_core 53 = .ok (.iload_n 2, 1) := by decide +kernel
theorem dX8_core_54 : decode cX8_core 54 = .ok (.ishl, 1) := by decide +kernel
theorem dX8_core_55 : decode cX8_core 55 = .ok (.iconst (-1), 1) := by decide +kernel
theorem dX8_core_56 : decode cX8_core 56 = .ok (.ixor, 1) := by decide +kernel
theorem dX8_core_57 : decode cX8_core 57 = .ok (.iand, 1) := by decide +kernel
theorem dX8_core_58 : decode cX8_core 58 = .ok (.istore_n 1, 1) := by decide +kernel
theorem dX8_core_59 : decode cX8_core 59 = .ok (.iinc 2 1, 3) := by decide +kernel
theorem dX8_core_62 : decode cX8_core 62 = .ok (.goto (-39), 3) := by decide +kernel
theorem dX8_core_65 : decode cX8_core 65 = .ok (.iload_n 1, 1) := by decide +kernel
theorem dX8_core_66 : decode cX8_core 66 = .ok (.ireturn, 1) := by decide +kernel
theorem dX8_eliminate_0 : decode cX8_eliminate 0 = .ok (.aload_n 0, 1) := by decide +kernel
theorem dX8_eliminate_1 : decode cX8_eliminate 1 = .ok (.iconst 0, 1) := by decide +kernel
theorem dX8_eliminate_2 : decode cX8_eliminate 2 = .ok (.putfield 203, 3) := by decide +kernel
theorem dX8_eliminate_5 : decode cX8_eliminate 5 = .ok (.aload_n 0, 1) := by decide +kernel
theorem dX8_eliminate_6 : decode cX8_eliminate 6 = .ok (.iconst 1, 1) := by decide +kernel
theorem dX8_eliminate_7 : decode cX8_eliminate 7 = .ok (.putfield 206, 3) := by decide +kernel
theorem dX8_eliminate_10 : decode cX8_eliminate 10 = .ok (.iconst 0, 1) := by decide +kernel
theorem dX8_eliminate_11 : decode cX8_eliminate 11 = .ok (.istore_n 1, 1) := by decide +kernel
theorem dX8_eliminate_12 : decode cX8_eliminate 12 = .ok (.iload_n 1, 1) := by decide +kernel
theorem dX8_eliminate_13 : decode cX8_eliminate 13 = .ok (.aload_n 0, 1) := by decide +kernel
theorem dX8_eliminate_14 : decode cX8_eliminate 14 = .ok (.getfield 7, 3) := by decide +kernel
theorem dX8_eliminate_17 : decode cX8_eliminate 17 = .ok (.iconst 0, 1) := by decide +kernel
theorem dX8_eliminate_18 : decode cX8_eliminate 18 = .ok (.iaload, 1) := by decide +kernel
theorem dX8_eliminate_19 : decode cX8_eliminate 19 = .ok (.if_icmp .ge 232, 3) := by decide +kernel
theorem dX8_eliminate_22 : decode cX8_eliminate 22 = .ok (.aload_n 0, 1) := by decide +kernel
theorem dX8_eliminate_23 : decode cX8_eliminate 23 = .ok (.getfield 7, 3) := by decide +kernel
theorem dX8_eliminate_26 : decode cX8_eliminate 26 = .ok (.iconst 1, 1) := by decide +kernel
theorem dX8_eliminate_27 : decode cX8_eliminate 27 = .ok (.iload_n 1, 1) := by decide +kernel
theorem dX8_eliminate_28 : decode cX8_eliminate 28 = .ok (.iadd, 1) := by decide +kernel
theorem dX8_eliminate_29 : decode cX8_eliminate 29 = .ok (.iaload, 1) := by decide +kernel
theorem dX8_eliminate_30 : decode cX8_eliminate 30 = .ok (.iconst 1, 1) := by decide +kernel
theorem dX8_eliminate_31 : decode cX8_eliminate 31 = .ok (.if_icmp .ne 29, 3) := by decide +kernel
theorem dX8_eliminate_34 : decode cX8_eliminate 34 = .ok (.sipush 256, 3) := by decide +kernel
theorem dX8_eliminate_37 : decode cX8_eliminate 37 = .ok (.aload_n 0, 1) := by decide +kernel
theorem dX8_eliminate_38 : decode cX8_eliminate 38 = .ok (.getfield 7, 3) := by decide +kernel
theorem dX8_eliminate_41 : decode cX8_eliminate 41 = .ok (.bipush 49, 2) := by decide +kernel
theorem dX8_eliminate_43 : decode cX8_eliminate 43 = .ok (.iload_n 1, 1) := by decide +kernel
theorem dX8_eliminate_44 : decode cX8_eliminate 44 = .ok (.iadd, 1) := by decide +kernel
theorem dX8_eliminate_45 : decode cX8_eliminate 45 = .ok (.iaload, 1) := by decide +kernel
theorem dX8_eliminate_46 : decode cX8_eliminate 46 = .ok (.imul, 1) := by decide +kernel
theorem dX8_eliminate_47 : decode cX8_eliminate 47 = .ok (.aload_n 0, 1) := by decide +kernel
theorem dX8_eliminate_48 : decode cX8_eliminate 48 = .ok (.getfield 7, 3) := by decide +kernel
theorem dX8_eliminate_51 : decode cX8_eliminate 51 = .ok (.bipush 25, 2) := by decide +kernel
theorem dX8_eliminate_53 : decode cX8_eliminate 53 = .ok (.iload_n 1, 1) := by decide +kernel
theorem dX8_eliminate_54 : decode cX8_eliminate 54 = .ok (.iadd, 1) := by decide +kernel
theorem dX8_eliminate_55 : decode cX8_eliminate 55 = .ok (.iaload, 1) := by decide +kernel
theorem dX8_eliminate_56 : decode cX8_eliminate 56 = .ok (.iadd, 1) := by decide +kernel
theorem dX8_eliminate_57 : decode cX8_eliminate 57 = .ok (.goto 4, 3) := by decide +kernel
theorem dX8_eliminate_60 : decode cX8_eliminate 60 = .ok (.iconst 0, 1) := by decide +kernel
theorem dX8_eliminate_61 : decode cX8_eliminate 61 = .ok (.istore_n 2, 1) := by decide +kernel
theorem dX8_eliminate_62 : decode cX8_eliminate 62 = .ok (.iconst 0, 1) := by decide +kernel
theorem dX8_eliminate_63 : decode cX8_eliminate 63 = .ok (.istore_n 3, 1) := by decide +kernel
theorem dX8_eliminate_64 : decode cX8_eliminate 64 = .ok (.iload_n 3, 1) := by decide +kernel
theorem dX8_eliminate_65 : decode cX8_eliminate 65 = .ok (.aload_n 0, 1) := by decide +kernel
theorem dX8_eliminate_66 : decode cX8_eliminate 66 = .ok (.getfield 203, 3) := by decide +kernel
theorem dX8_eliminate_69 : decode cX8_eliminate 69 = .ok (.if_icmp .ge 38, 3) := by decide +kernel
theorem dX8_eliminate_72 : decode cX8_eliminate 72 = .ok (.iload_n 2, 1) := by decide +kernel
theorem dX8_eliminate_73 : decode cX8_eliminate 73 = .ok (.iload_n 2, 1) := by decide +kernel
theorem dX8_eliminate_74 : decode cX8_eliminate 74 = .ok (.aload_n 0, 1) := by decide +kernel
theorem dX8_eliminate_75 : decode cX8_eliminate 75 = .ok (.getfield 48, 3) := by decide +kernel
theorem dX8_eliminate_78 : decode cX8_eliminate 78 = .ok (.iload_n 3, 1) := by decide +kernel
theorem dX8_eliminate_79 : decode cX8_eliminate 79 = .ok (.iaload, 1) := by decide +kernel
theorem dX8_eliminate_80 : decode cX8_eliminate 80 = .ok (.invokestatic 85, 3) := by decide +kernel
theorem dX8_eliminate_83 : decode cX8_eliminate 83 = .ok (.invokestatic 54, 3) := by decide +kernel
theorem dX8_eliminate_86 : decode cX8_eliminate 86 = .ok (.ifCond .eq 12, 3) := by decide +kernel
theorem dX8_eliminate_89 : decode cX8_eliminate 89 = .ok (.aload_n 0, 1) := by decide +kernel
theorem dX8_eliminate_90 : decode cX8_eliminate 90 = .ok (.getfield 48, 3) := by decide +kernel
theorem dX8_eliminate_93 : decode cX8_eliminate 93 = .ok (.iload_n 3, 1) := by decide +kernel
theorem dX8_eliminate_94 : decode cX8_eliminate 94 = .ok (.iaload, 1) := by decide +kernel
theorem dX8_eliminate_95 : decode cX8_eliminate 95 = .ok (.goto 4, 3) := by decide +kernel
theorem dX8_eliminate_98 : decode cX8_eliminate 98 = .ok (.iconst 0, 1) := by decide +kernel
theorem dX8_eliminate_99 : decode cX8_eliminate 99 = .ok (.ixor, 1) := by decide +kernel
theorem dX8_eliminate_100 : decode cX8_eliminate 100 = .ok (.istore_n 2, 1) := by decide +kernel
theorem dX8_eliminate_101 : decode cX8_eliminate 101 = .ok (.iinc 3 1, 3) := by decide +kernel
theorem dX8_eliminate_104 : decode cX8_eliminate 104 = .ok (.goto (-40), 3) := by decide +kernel
theorem dX8_eliminate_107 : decode cX8_eliminate 107 = .ok (.iload_n 2, 1) := by decide +kernel
theorem dX8_eliminate_108 : decode cX8_eliminate 108 = .ok (.sipush 256, 3) := by decide +kernel
theorem dX8_eliminate_111 : decode cX8_eliminate 111 = .ok (.if_icmp .ne 11, 3) := by decide +kernel
theorem dX8_eliminate_114 : decode cX8_eliminate 114 = .ok (.aload_n 0, 1) := by decide +kernel
theorem dX8_eliminate_115 : decode cX8_eliminate 115 = .ok (.iconst 0, 1) := by decide +kernel
theorem dX8_eliminate_116 : decode cX8_eliminate 116 = .ok (.putfield 206, 3) := by decide +kernel
theorem dX8_eliminate_119 : decode cX8_eliminate 119 = .ok (.goto 126, 3) := by decide +kernel
theorem dX8_eliminate_122 : decode cX8_eliminate 122 = .ok (.iload_n 2, 1) := by decide +kernel
theorem dX8_eliminate_123 : decode cX8_eliminate 123 = .ok (.ifCond .eq 122, 3) := by decide +kernel
theorem dX8_eliminate_126 : decode cX8_eliminate 126 = .ok (.iload_n 2, 1) := by decide +kernel
theorem dX8_eliminate_127 : decode cX8_eliminate 127 = .ok (.invokestatic 85, 3) := by decide +kernel
theorem dX8_eliminate_130 : decode cX8_eliminate 130 = .ok (.istore_n 3, 1) := by decide +kernel
theorem dX8_eliminate_131 : decode cX8_eliminate 131 = .ok (.iconst 0, 1) := by decide +kernel
theorem dX8_eliminate_132 : decode cX8_eliminate 132 = .ok (.istore 4, 2) := by decide +kernel
theorem dX8_eliminate_134 : decode cX8_eliminate 134 = .ok (.iload 4, 2) := by decide +kernel
theorem dX8_eliminate_136 : decode cX8_eliminate 136 = .ok (.aload_n 0, 1) := by decide +kernel
theorem dX8_eliminate_137 : decode cX8_eliminate 137 = .ok (.getfield 203, 3) := by decide +kernel
theorem dX8_eliminate_140 : decode cX8_eliminate 140 = .ok (.if_icmp .ge 38, 3) := by decide +kernel
theorem dX8_eliminate_143 : decode cX8_eliminate 143 = .ok (.aload_n 0, 1) := by decide +kernel
theorem dX8_eliminate_144 : decode cX8_eliminate 144 = .ok (.getfield 48, 3) := by decide +kernel
theorem dX8_eliminate_147 : decode cX8_eliminate 147 = .ok (.iload 4, 2) := by decide +kernel
theorem dX8_eliminate_149 : decode cX8_eliminate 149 = .ok (.dup2, 1) := by decide +kernel
theorem dX8_eliminate_150 : decode cX8_eliminate 150 = .ok (.iaload, 1) := by decide +kernel
theorem dX8_eliminate_151 : decode cX8_eliminate 151 = .ok (.aload_n 0, 1) := by decide +kernel
theorem dX8_eliminate_152 : decode cX8_eliminate 152 = .ok (.getfield 48, 3) := by decide +kernel
theorem dX8_eliminate_155 : decode cX8_eliminate 155 = .ok (.iload 4, 2) := by decide +kernel
theorem dX8_eliminate_157 : decode cX8_eliminate 157 = .ok (.iaload, 1) := by decide +kernel
theorem dX8_eliminate_158 : decode cX8_eliminate 158 = .ok (.iload_n 3, 1) := by decide +kernel
theorem dX8_eliminate_159 : decode cX8_eliminate 159 = .ok (.invokestatic 54, 3) := by decide +kernel
theorem dX8_eliminate_162 : decode cX8_eliminate 162 = .ok (.ifCond .eq 7, 3) := by decide +kernel
theorem dX8_eliminate_165 : decode cX8_eliminate 165 = .ok (.iload_n 2, 1) := by decide +kernel
theorem dX8_eliminate_166 : decode cX8_eliminate 166 = .ok (.goto 4, 3) := by decide +kernel
theorem dX8_eliminate_169 : decode cX8_eliminate 169 = .ok (.iconst 0, 1) := by decide +kernel
theorem dX8_eliminate_170 : decode cX8_eliminate 170 = .ok (.ixor, 1) := by decide +kernel
theorem dX8_eliminate_171 : decode cX8_eliminate 171 = .ok (.iastore, 1) := by decide +kernel
theorem dX8_eliminate_172 : decode cX8_eliminate 172 = .ok (.iinc 4 1, 3) := by decide +kernel
theorem dX8_eliminate_175 : decode cX8_eliminate 175 = .ok (.goto (-41), 3) := by decide +kernel
theorem dX8_eliminate_178 : decode cX8_eliminate 178 = .ok (.aload_n 0, 1) := by decide +kernel
theorem dX8_eliminate_179 : decode cX8_eliminate 179 = .ok (.getfield 203, 3) := by decide +kernel
theorem dX8_eliminate_182 : decode cX8_eliminate 182 = .ok (.istore 4, 2) := by decide +kernel
theorem dX8_eliminate_184 : decode cX8_eliminate 184 = .ok (.iload 4, 2) := by decide +kernel
theorem dX8_eliminate_186 : decode cX8_eliminate 186 = .ok (.ifCond .le 41, 3) := by decide +kernel
theorem dX8_eliminate_189 : decode cX8_eliminate 189 = .ok (.aload_n 0, 1) := by decide +kernel
theorem dX8_eliminate_190 : decode cX8_eliminate 190 = .ok (.getfield 48, 3) := by decide +kernel
theorem dX8_eliminate_193 : decode cX8_eliminate 193 = .ok (.iload 4, 2) := by decide +kernel
theorem dX8_eliminate_195 : decode cX8_eliminate 195 = .ok (.iconst 1, 1) := by decide +kernel
theorem dX8_eliminate_196 : decode cX8_eliminate 196 = .ok (.isub, 1) := by decide +kernel
theorem dX8_eliminate_197 : decode cX8_eliminate 197 = .ok (.iaload, 1) := by decide +kernel
theorem dX8_eliminate_198 : decode cX8_eliminate 198 = .ok (.invokestatic 85, 3) := by decide +kernel
theorem dX8_eliminate_201 : decode cX8_eliminate 201 = .ok (.iload_n 3, 1) := by decide +kernel
theorem dX8_eliminate_202 : decode cX8_eliminate 202 = .ok (.if_icmp .le 25, 3) := by decide +kernel
theorem dX8_eliminate_205 : decode cX8_eliminate 205 = .ok (.aload_n 0, 1) := by decide +kernel
theorem dX8_eliminate_206 : decode cX8_eliminate 206 = .ok (.getfield 48, 3) := by decide +kernel
theorem dX8_eliminate_209 : decode cX8_eliminate 209 = .ok (.iload 4, 2) := by decide +kernel
theorem dX8_eliminate_211 : decode cX8_eliminate 211 = .ok (.aload_n 0, 1) := by decide +kernel
theorem dX8_eliminate_212 : decode cX8_eliminate 212 = .ok (.getfield 48, 3) := by decide +kernel
theorem dX8_eliminate_215 : decode cX8_eliminate 215 = .ok (.iload 4, 2) := by decide +kernel
theorem dX8_eliminate_217 : decode cX8_eliminate 217 = .ok (.iconst 1, 1) := by decide +kernel
theorem dX8_eliminate_218 : decode cX8_eliminate 218 = .ok (.isub, 1) := by decide +kernel
theorem dX8_eliminate_219 : decode cX8_eliminate 219 = .ok (.iaload, 1) := by decide +kernel
theorem dX8_eliminate_220 : decode cX8_eliminate 220 = .ok (.iastore, 1) := by decide +kernel
theorem dX8_eliminate_221 : decode cX8_eliminate 221 = .ok (.iinc 4 (-1), 3) := by decide +kernel
theorem dX8_eliminate_224 : decode cX8_eliminate 224 = .ok (.goto (-40), 3) := by decide +kernel
theorem dX8_eliminate_227 : decode cX8_eliminate 227 = .ok (.aload_n 0, 1) := by decide +kernel
theorem dX8_eliminate_228 : decode cX8_eliminate 228 = .ok (.getfield 48, 3) := by decide +kernel
theorem dX8_eliminate_231 : decode cX8_eliminate 231 = .ok (.iload 4, 2) := by decide +kernel
theorem dX8_eliminate_233 : decode cX8_eliminate 233 = .ok (.iload_n 2, 1) := by decide +kernel
theorem dX8_eliminate_234 : decode cX8_eliminate 234 = .ok (.iastore, 1) := by decide +kernel
theorem dX8_eliminate_235 : decode cX8_eliminate 235 = .ok (.aload_n 0, 1) := by decide +kernel
theorem dX8_eliminate_236 : decode cX8_eliminate 236 = .ok (.dup, 1) := by decide +kernel
theorem dX8_eliminate_237 : decode cX8_eliminate 237 = .ok (.getfield 203, 3) := by decide +kernel
theorem dX8_eliminate_240 : decode cX8_eliminate 240 = .ok (.iconst 1, 1) := by decide +kernel
theorem dX8_eliminate_241 : decode cX8_eliminate 241 = .ok (.iadd, 1) := by decide +kernel
theorem dX8_eliminate_242 : decode cX8_eliminate 242 = .ok (.putfield 203, 3) := by decide +kernel
theorem dX8_eliminate_245 : decode cX8_eliminate 245 = .ok (.iinc 1 1, 3) := by decide +kernel
theorem dX8_eliminate_248 : decode cX8_eliminate 248 = .ok (.goto (-236), 3) := by decide +kernel
theorem dX8_eliminate_251 : decode cX8_eliminate 251 = .ok (.return_, 1) := by decide +kernel
theorem dX8_rank_0 : decode cX8_rank 0 = .ok (.aload_n 0, 1) := by decide +kernel
theorem dX8_rank_1 : decode cX8_rank 1 = .ok (.iconst 0, 1) := by decide +kernel
theorem dX8_rank_2 : decode cX8_rank 2 = .ok (.putfield 51, 3) := by decide +kernel
theorem dX8_rank_5 : decode cX8_rank 5 = .ok (.aload_n 0, 1) := by decide +kernel
theorem dX8_rank_6 : decode cX8_rank 6 = .ok (.invokevirtual 210, 3) := by decide +kernel
theorem dX8_rank_9 : decode cX8_rank 9 = .ok (.aload_n 0, 1) := by decide +kernel
theorem dX8_rank_10 : decode cX8_rank 10 = .ok (.getfield 203, 3) := by decide +kernel
theorem dX8_rank_13 : decode cX8_rank 13 = .ok (.ireturn, 1) := by decide +kernel
theorem dX8_isConsistent_0 : decode cX8_isConsistent 0 = .ok (.aload_n 0, 1) := by decide +kernel
theorem dX8_isConsistent_1 : decode cX8_isConsistent 1 = .ok (.iconst 0, 1) := by decide +kernel
theorem dX8_isConsistent_2 : decode cX8_isConsistent 2 = .ok (.putfield 51, 3) := by decide +kernel
theorem dX8_isConsistent_5 : decode cX8_isConsistent 5 = .ok (.aload_n 0, 1) := by decide +kernel
theorem dX8_isConsistent_6 : decode cX8_isConsistent 6 = .ok (.invokevirtual 210, 3) := by decide +kernel
theorem dX8_isConsistent_9 : decode cX8_isConsistent 9 = .ok (.aload_n 0, 1) := by decide +kernel
theorem dX8_isConsistent_10 : decode cX8_isConsistent 10 = .ok (.getfield 206, 3) := by decide +kernel
theorem dX8_isConsistent_13 : decode cX8_isConsistent 13 = .ok (.ireturn, 1) := by decide +kernel
theorem dX8_eliminatedRow_0 : decode cX8_eliminatedRow 0 = .ok (.aload_n 0, 1) := by decide +kernel
theorem dX8_eliminatedRow_1 : decode cX8_eliminatedRow 1 = .ok (.invokevirtual 210, 3) := by decide +kernel
theorem dX8_eliminatedRow_4 : decode cX8_eliminatedRow 4 = .ok (.aload_n 0, 1) := by decide +kernel
theorem dX8_eliminatedRow_5 : decode cX8_eliminatedRow 5 = .ok (.aload_n 0, 1) := by decide +kernel
theorem dX8_eliminatedRow_6 : decode cX8_eliminatedRow 6 = .ok (.getfield 206, 3) := by decide +kernel
theorem dX8_eliminatedRow_9 : decode cX8_eliminatedRow 9 = .ok (.ifCond .eq 7, 3) := by decide +kernel
theorem dX8_eliminatedRow_12 : decode cX8_eliminatedRow 12 = .ok (.iconst 0, 1) := by decide +kernel
theorem dX8_eliminatedRow_13 : decode cX8_eliminatedRow 13 = .ok (.goto 4, 3) := by decide +kernel
theorem dX8_eliminatedRow_16 : decode cX8_eliminatedRow 16 = .ok (.iconst 1, 1) := by decide +kernel
theorem dX8_eliminatedRow_17 : decode cX8_eliminatedRow 17 = .ok (.invokevirtual 118, 3) := by decide +kernel
theorem dX8_eliminatedRow_20 : decode cX8_eliminatedRow 20 = .ok (.ifCond .eq 5, 3) := by decide +kernel
theorem dX8_eliminatedRow_23 : decode cX8_eliminatedRow 23 = .ok (.iconst 0, 1) := by decide +kernel
theorem dX8_eliminatedRow_24 : decode cX8_eliminatedRow 24 = .ok (.ireturn, 1) := by decide +kernel
theorem dX8_eliminatedRow_25 : decode cX8_eliminatedRow 25 = .ok (.iload_n 1, 1) := by decide +kernel
theorem dX8_eliminatedRow_26 : decode cX8_eliminatedRow 26 = .ok (.i2l, 1) := by decide +kernel
theorem dX8_eliminatedRow_27 : decode cX8_eliminatedRow 27 = .ok (.lconst 0, 1) := by decide +kernel
theorem dX8_eliminatedRow_28 : decode cX8_eliminatedRow 28 = .ok (.aload_n 0, 1) := by decide +kernel
theorem dX8_eliminatedRow_29 : decode cX8_eliminatedRow 29 = .ok (.getfield 203, 3) := by decide +kernel
theorem dX8_eliminatedRow_32 : decode cX8_eliminatedRow 32 = .ok (.iconst 1, 1) := by decide +kernel
theorem dX8_eliminatedRow_33 : decode cX8_eliminatedRow 33 = .ok (.isub, 1) := by decide +kernel
theorem dX8_eliminatedRow_34 : decode cX8_eliminatedRow 34 = .ok (.i2l, 1) := by decide +kernel
theorem dX8_eliminatedRow_35 : decode cX8_eliminatedRow 35 = .ok (.invokestatic 111, 3) := by decide +kernel
theorem dX8_eliminatedRow_38 : decode cX8_eliminatedRow 38 = .ok (.ifCond .eq 12, 3) := by decide +kernel
theorem dX8_eliminatedRow_41 : decode cX8_eliminatedRow 41 = .ok (.aload_n 0, 1) := by decide +kernel
theorem dX8_eliminatedRow_42 : decode cX8_eliminatedRow 42 = .ok (.getfield 48, 3) := by decide +kernel
theorem dX8_eliminatedRow_45 : decode cX8_eliminatedRow 45 = .ok (.iload_n 1, 1) := by decide +kernel
theorem dX8_eliminatedRow_46 : decode cX8_eliminatedRow 46 = .ok (.iaload, 1) := by decide +kernel
theorem dX8_eliminatedRow_47 : decode cX8_eliminatedRow 47 = .ok (.goto 5, 3) := by decide +kernel
theorem dX8_eliminatedRow_50 : decode cX8_eliminatedRow 50 = .ok (.bipush (-9), 2) := by decide +kernel
theorem dX8_eliminatedRow_52 : decode cX8_eliminatedRow 52 = .ok (.ireturn, 1) := by decide +kernel
theorem dX8_solved_0 : decode cX8_solved 0 = .ok (.aload_n 0, 1) := by decide +kernel
theorem dX8_solved_1 : decode cX8_solved 1 = .ok (.getfield 7, 3) := by decide +kernel
theorem dX8_solved_4 : decode cX8_solved 4 = .ok (.aload_n 0, 1) := by decide +kernel
theorem dX8_solved_5 : decode cX8_solved 5 = .ok (.getfield 13, 3) := by decide +kernel
theorem dX8_solved_8 : decode cX8_solved 8 = .ok (.invokestatic 102, 3) := by decide +kernel
theorem dX8_solved_11 : decode cX8_solved 11 = .ok (.aload_n 0, 1) := by decide +kernel
theorem dX8_solved_12 : decode cX8_solved 12 = .ok (.getfield 13, 3) := by decide +kernel
theorem dX8_solved_15 : decode cX8_solved 15 = .ok (.bipush 73, 2) := by decide +kernel
theorem dX8_solved_17 : decode cX8_solved 17 = .ok (.iconst 0, 1) := by decide +kernel
theorem dX8_solved_18 : decode cX8_solved 18 = .ok (.iastore, 1) := by decide +kernel
theorem dX8_solved_19 : decode cX8_solved 19 = .ok (.iconst 0, 1) := by decide +kernel
theorem dX8_solved_20 : decode cX8_solved 20 = .ok (.istore_n 1, 1) := by decide +kernel
theorem dX8_solved_21 : decode cX8_solved 21 = .ok (.aload_n 0, 1) := by decide +kernel
theorem dX8_solved_22 : decode cX8_solved 22 = .ok (.aload_n 0, 1) := by decide +kernel
theorem dX8_solved_23 : decode cX8_solved 23 = .ok (.getfield 13, 3) := by decide +kernel
theorem dX8_solved_26 : decode cX8_solved 26 = .ok (.invokevirtual 106, 3) := by decide +kernel
theorem dX8_solved_29 : decode cX8_solved 29 = .ok (.aload_n 0, 1) := by decide +kernel
theorem dX8_solved_30 : decode cX8_solved 30 = .ok (.getfield 38, 3) := by decide +kernel
theorem dX8_solved_33 : decode cX8_solved 33 = .ok (.bipush (-9), 2) := by decide +kernel
theorem dX8_solved_35 : decode cX8_solved 35 = .ok (.if_icmp .ne 14, 3) := by decide +kernel
theorem dX8_solved_38 : decode cX8_solved 38 = .ok (.aload_n 0, 1) := by decide +kernel
theorem dX8_solved_39 : decode cX8_solved 39 = .ok (.getfield 68, 3) := by decide +kernel
theorem dX8_solved_42 : decode cX8_solved 42 = .ok (.bipush 8, 2) := by decide +kernel
theorem dX8_solved_44 : decode cX8_solved 44 = .ok (.if_icmp .ne 5, 3) := by decide +kernel
theorem dX8_solved_47 : decode cX8_solved 47 = .ok (.iload_n 1, 1) := by decide +kernel
theorem dX8_solved_48 : decode cX8_solved 48 = .ok (.ireturn, 1) := by decide +kernel
theorem dX8_solved_49 : decode cX8_solved 49 = .ok (.aload_n 0, 1) := by decide +kernel
theorem dX8_solved_50 : decode cX8_solved 50 = .ok (.getfield 38, 3) := by decide +kernel
theorem dX8_solved_53 : decode cX8_solved 53 = .ok (.bipush (-9), 2) := by decide +kernel
theorem dX8_solved_55 : decode cX8_solved 55 = .ok (.if_icmp .ne 43, 3) := by decide +kernel
theorem dX8_solved_58 : decode cX8_solved 58 = .ok (.aload_n 0, 1) := by decide +kernel
theorem dX8_solved_59 : decode cX8_solved 59 = .ok (.getfield 13, 3) := by decide +kernel
theorem dX8_solved_62 : decode cX8_solved 62 = .ok (.bipush 74, 2) := by decide +kernel
theorem dX8_solved_64 : decode cX8_solved 64 = .ok (.aload_n 0, 1) := by decide +kernel
theorem dX8_solved_65 : decode cX8_solved 65 = .ok (.getfield 13, 3) := by decide +kernel
theorem dX8_solved_68 : decode cX8_solved 68 = .ok (.bipush 73, 2) := by decide +kernel
theorem dX8_solved_70 : decode cX8_solved 70 = .ok (.iaload, 1) := by decide +kernel
theorem dX8_solved_71 : decode cX8_solved 71 = .ok (.iadd, 1) := by decide +kernel
theorem dX8_solved_72 : decode cX8_solved 72 = .ok (.iconst 2, 1) := by decide +kernel
theorem dX8_solved_73 : decode cX8_solved 73 = .ok (.aload_n 0, 1) := by decide +kernel
theorem dX8_solved_74 : decode cX8_solved 74 = .ok (.getfield 62, 3) := by decide +kernel
theorem dX8_solved_77 : decode cX8_solved 77 = .ok (.iconst (-1), 1) := by decide +kernel
theorem dX8_solved_78 : decode cX8_solved 78 = .ok (.ixor, 1) := by decide +kernel
theorem dX8_solved_79 : decode cX8_solved 79 = .ok (.invokestatic 85, 3) := by decide +kernel
theorem dX8_solved_82 : decode cX8_solved 82 = .ok (.imul, 1) := by decide +kernel
theorem dX8_solved_83 : decode cX8_solved 83 = .ok (.iastore, 1) := by decide +kernel
theorem dX8_solved_84 : decode cX8_solved 84 = .ok (.aload_n 0, 1) := by decide +kernel
theorem dX8_solved_85 : decode cX8_solved 85 = .ok (.getfield 13, 3) := by decide +kernel
theorem dX8_solved_88 : decode cX8_solved 88 = .ok (.bipush 73, 2) := by decide +kernel
theorem dX8_solved_90 : decode cX8_solved 90 = .ok (.dup2, 1) := by decide +kernel
theorem dX8_solved_91 : decode cX8_solved 91 = .ok (.iaload, 1) := by decide +kernel
theorem dX8_solved_92 : decode cX8_solved 92 = .ok (.iconst 1, 1) := by decide +kernel
theorem dX8_solved_93 : decode cX8_solved 93 = .ok (.iadd, 1) := by decide +kernel
theorem dX8_solved_94 : decode cX8_solved 94 = .ok (.iastore, 1) := by decide +kernel
theorem dX8_solved_95 : decode cX8_solved 95 = .ok (.goto (-74), 3) := by decide +kernel
theorem dX8_solved_98 : decode cX8_solved 98 = .ok (.aload_n 0, 1) := by decide +kernel
theorem dX8_solved_99 : decode cX8_solved 99 = .ok (.getfield 71, 3) := by decide +kernel
theorem dX8_solved_102 : decode cX8_solved 102 = .ok (.ifCond .ne 7, 3) := by decide +kernel
theorem dX8_solved_105 : decode cX8_solved 105 = .ok (.iconst (-1), 1) := by decide +kernel
theorem dX8_solved_106 : decode cX8_solved 106 = .ok (.iload_n 1, 1) := by decide +kernel
theorem dX8_solved_107 : decode cX8_solved 107 = .ok (.isub, 1) := by decide +kernel
theorem dX8_solved_108 : decode cX8_solved 108 = .ok (.ireturn, 1) := by decide +kernel
theorem dX8_solved_109 : decode cX8_solved 109 = .ok (.aload_n 0, 1) := by decide +kernel
theorem dX8_solved_110 : decode cX8_solved 110 = .ok (.getfield 13, 3) := by decide +kernel
theorem dX8_solved_113 : decode cX8_solved 113 = .ok (.iconst 0, 1) := by decide +kernel
theorem dX8_solved_114 : decode cX8_solved 114 = .ok (.iaload, 1) := by decide +kernel
theorem dX8_solved_115 : decode cX8_solved 115 = .ok (.bipush 24, 2) := by decide +kernel
theorem dX8_solved_117 : decode cX8_solved 117 = .ok (.if_icmp .ne 6, 3) := by decide +kernel
theorem dX8_solved_120 : decode cX8_solved 120 = .ok (.bipush (-90), 2) := by decide +kernel
theorem dX8_solved_122 : decode cX8_solved 122 = .ok (.ireturn, 1) := by decide +kernel
theorem dX8_solved_123 : decode cX8_solved 123 = .ok (.aload_n 0, 1) := by decide +kernel
theorem dX8_solved_124 : decode cX8_solved 124 = .ok (.aload_n 0, 1) := by decide +kernel
theorem dX8_solved_125 : decode cX8_solved 125 = .ok (.getfield 13, 3) := by decide +kernel
theorem dX8_solved_128 : decode cX8_solved 128 = .ok (.invokevirtual 186, 3) := by decide +kernel
theorem dX8_solved_131 : decode cX8_solved 131 = .ok (.istore_n 2, 1) := by decide +kernel
theorem dX8_solved_132 : decode cX8_solved 132 = .ok (.aload_n 0, 1) := by decide +kernel
theorem dX8_solved_133 : decode cX8_solved 133 = .ok (.getfield 13, 3) := by decide +kernel
theorem dX8_solved_136 : decode cX8_solved 136 = .ok (.iconst 0, 1) := by decide +kernel
theorem dX8_solved_137 : decode cX8_solved 137 = .ok (.aload_n 0, 1) := by decide +kernel
theorem dX8_solved_138 : decode cX8_solved 138 = .ok (.getfield 177, 3) := by decide +kernel
theorem dX8_solved_141 : decode cX8_solved 141 = .ok (.aload_n 0, 1) := by decide +kernel
theorem dX8_solved_142 : decode cX8_solved 142 = .ok (.getfield 180, 3) := by decide +kernel
theorem dX8_solved_145 : decode cX8_solved 145 = .ok (.invokestatic 133, 3) := by decide +kernel
theorem dX8_solved_148 : decode cX8_solved 148 = .ok (.aload_n 0, 1) := by decide +kernel
theorem dX8_solved_149 : decode cX8_solved 149 = .ok (.getfield 13, 3) := by decide +kernel
theorem dX8_solved_152 : decode cX8_solved 152 = .ok (.bipush 73, 2) := by decide +kernel
theorem dX8_solved_154 : decode cX8_solved 154 = .ok (.iload_n 2, 1) := by decide +kernel
theorem dX8_solved_155 : decode cX8_solved 155 = .ok (.iastore, 1) := by decide +kernel
theorem dX8_solved_156 : decode cX8_solved 156 = .ok (.iinc 1 1, 3) := by decide +kernel
theorem dX8_solved_159 : decode cX8_solved 159 = .ok (.goto (-138), 3) := by decide +kernel
theorem dX8_solve_0 : decode cX8_solve 0 = .ok (.aload_n 0, 1) := by decide +kernel
theorem dX8_solve_1 : decode cX8_solve 1 = .ok (.iconst 0, 1) := by decide +kernel
theorem dX8_solve_2 : decode cX8_solve 2 = .ok (.putfield 51, 3) := by decide +kernel
theorem dX8_solve_5 : decode cX8_solve 5 = .ok (.aload_n 0, 1) := by decide +kernel
theorem dX8_solve_6 : decode cX8_solve 6 = .ok (.invokevirtual 213, 3) := by decide +kernel
theorem dX8_solve_9 : decode cX8_solve 9 = .ok (.istore_n 1, 1) := by decide +kernel
theorem dX8_solve_10 : decode cX8_solve 10 = .ok (.aload_n 0, 1) := by decide +kernel
theorem dX8_solve_11 : decode cX8_solve 11 = .ok (.aload_n 0, 1) := by decide +kernel
theorem dX8_solve_12 : decode cX8_solve 12 = .ok (.getfield 7, 3) := by decide +kernel
theorem dX8_solve_15 : decode cX8_solve 15 = .ok (.invokevirtual 106, 3) := by decide +kernel
theorem dX8_solve_18 : decode cX8_solve 18 = .ok (.iload_n 1, 1) := by decide +kernel
theorem dX8_solve_19 : decode cX8_solve 19 = .ok (.ireturn, 1) := by decide +kernel
theorem dX8_save_0 : decode cX8_save 0 = .ok (.aload_n 0, 1) := by decide +kernel
theorem dX8_save_1 : decode cX8_save 1 = .ok (.iload_n 1, 1) := by decide +kernel
theorem dX8_save_2 : decode cX8_save 2 = .ok (.i2l, 1) := by decide +kernel
theorem dX8_save_3 : decode cX8_save 3 = .ok (.lconst 0, 1) := by decide +kernel
theorem dX8_save_4 : decode cX8_save 4 = .ok (.lconst 1, 1) := by decide +kernel
theorem dX8_save_5 : decode cX8_save 5 = .ok (.invokestatic 111, 3) := by decide +kernel
theorem dX8_save_8 : decode cX8_save 8 = .ok (.ifCond .eq 7, 3) := by decide +kernel
theorem dX8_save_11 : decode cX8_save 11 = .ok (.iconst 0, 1) := by decide +kernel
theorem dX8_save_12 : decode cX8_save 12 = .ok (.goto 4, 3) := by decide +kernel
theorem dX8_save_15 : decode cX8_save 15 = .ok (.iconst 1, 1) := by decide +kernel
theorem dX8_save_16 : decode cX8_save 16 = .ok (.invokevirtual 118, 3) := by decide +kernel
theorem dX8_save_19 : decode cX8_save 19 = .ok (.ifCond .eq 5, 3) := by decide +kernel
theorem dX8_save_22 : decode cX8_save 22 = .ok (.iconst 0, 1) := by decide +kernel
theorem dX8_save_23 : decode cX8_save 23 = .ok (.ireturn, 1) := by decide +kernel
theorem dX8_save_24 : decode cX8_save 24 = .ok (.aload_n 0, 1) := by decide +kernel
theorem dX8_save_25 : decode cX8_save 25 = .ok (.getfield 22, 3) := by decide +kernel
theorem dX8_save_28 : decode cX8_save 28 = .ok (.iload_n 1, 1) := by decide +kernel
theorem dX8_save_29 : decode cX8_save 29 = .ok (.iconst 1, 1) := by decide +kernel
theorem dX8_save_30 : decode cX8_save 30 = .ok (.bastore, 1) := by decide +kernel
theorem dX8_save_31 : decode cX8_save 31 = .ok (.iconst 0, 1) := by decide +kernel
theorem dX8_save_32 : decode cX8_save 32 = .ok (.istore_n 2, 1) := by decide +kernel
theorem dX8_save_33 : decode cX8_save 33 = .ok (.iload_n 2, 1) := by decide +kernel
theorem dX8_save_34 : decode cX8_save 34 = .ok (.bipush 82, 2) := by decide +kernel
theorem dX8_save_36 : decode cX8_save 36 = .ok (.if_icmp .ge 26, 3) := by decide +kernel
theorem dX8_save_39 : decode cX8_save 39 = .ok (.aload_n 0, 1) := by decide +kernel
theorem dX8_save_40 : decode cX8_save 40 = .ok (.getfield 19, 3) := by decide +kernel
theorem dX8_save_43 : decode cX8_save 43 = .ok (.bipush 82, 2) := by decide +kernel
theorem dX8_save_45 : decode cX8_save 45 = .ok (.iload_n 1, 1) := by decide +kernel
theorem dX8_save_46 : decode cX8_save 46 = .ok (.imul, 1) := by decide +kernel
theorem dX8_save_47 : decode cX8_save 47 = .ok (.iload_n 2, 1) := by decide +kernel
theorem dX8_save_48 : decode cX8_save 48 = .ok (.iadd, 1) := by decide +kernel
theorem dX8_save_49 : decode cX8_save 49 = .ok (.aload_n 0, 1) := by decide +kernel
theorem dX8_save_50 : decode cX8_save 50 = .ok (.getfield 7, 3) := by decide +kernel
theorem dX8_save_53 : decode cX8_save 53 = .ok (.iload_n 2, 1) := by decide +kernel
theorem dX8_save_54 : decode cX8_save 54 = .ok (.iaload, 1) := by decide +kernel
theorem dX8_save_55 : decode cX8_save 55 = .ok (.iastore, 1) := by decide +kernel
theorem dX8_save_56 : decode cX8_save 56 = .ok (.iinc 2 1, 3) := by decide +kernel
theorem dX8_save_59 : decode cX8_save 59 = .ok (.goto (-26), 3) := by decide +kernel
theorem dX8_save_62 : decode cX8_save 62 = .ok (.aload_n 0, 1) := by decide +kernel
theorem dX8_save_63 : decode cX8_save 63 = .ok (.getfield 7, 3) := by decide +kernel
theorem dX8_save_66 : decode cX8_save 66 = .ok (.iconst 0, 1) := by decide +kernel
theorem dX8_save_67 : decode cX8_save 67 = .ok (.iaload, 1) := by decide +kernel
theorem dX8_save_68 : decode cX8_save 68 = .ok (.ireturn, 1) := by decide +kernel
theorem dX8_restore_0 : decode cX8_restore 0 = .ok (.aload_n 0, 1) := by decide +kernel
theorem dX8_restore_1 : decode cX8_restore 1 = .ok (.iload_n 1, 1) := by decide +kernel
theorem dX8_restore_2 : decode cX8_restore 2 = .ok (.i2l, 1) := by decide +kernel
theorem dX8_restore_3 : decode cX8_restore 3 = .ok (.lconst 0, 1) := by decide +kernel
theorem dX8_restore_4 : decode cX8_restore 4 = .ok (.lconst 1, 1) := by decide +kernel
theorem dX8_restore_5 : decode cX8_restore 5 = .ok (.invokestatic 111, 3) := by decide +kernel
theorem dX8_restore_8 : decode cX8_restore 8 = .ok (.ifCond .ne 7, 3) := by decide +kernel
theorem dX8_restore_11 : decode cX8_restore 11 = .ok (.iconst 1, 1) := by decide +kernel
theorem dX8_restore_12 : decode cX8_restore 12 = .ok (.goto 17, 3) := by decide +kernel
theorem dX8_restore_15 : decode cX8_restore 15 = .ok (.aload_n 0, 1) := by decide +kernel
theorem dX8_restore_16 : decode cX8_restore 16 = .ok (.getfield 22, 3) := by decide +kernel
theorem dX8_restore_19 : decode cX8_restore 19 = .ok (.iload_n 1, 1) := by decide +kernel
theorem dX8_restore_20 : decode cX8_restore 20 = .ok (.baload, 1) := by decide +kernel
theorem dX8_restore_21 : decode cX8_restore 21 = .ok (.ifCond .ne 7, 3) := by decide +kernel
theorem dX8_restore_24 : decode cX8_restore 24 = .ok (.iconst 2, 1) := by decide +kernel
theorem dX8_restore_25 : decode cX8_restore 25 = .ok (.goto 4, 3) := by decide +kernel
theorem dX8_restore_28 : decode cX8_restore 28 = .ok (.iconst 0, 1) := by decide +kernel
theorem dX8_restore_29 : decode cX8_restore 29 = .ok (.invokevirtual 118, 3) := by decide +kernel
theorem dX8_restore_32 : decode cX8_restore 32 = .ok (.ifCond .eq 5, 3) := by decide +kernel
theorem dX8_restore_35 : decode cX8_restore 35 = .ok (.iconst 0, 1) := by decide +kernel
theorem dX8_restore_36 : decode cX8_restore 36 = .ok (.ireturn, 1) := by decide +kernel
theorem dX8_restore_37 : decode cX8_restore 37 = .ok (.iconst 0, 1) := by decide +kernel
theorem dX8_restore_38 : decode cX8_restore 38 = .ok (.istore_n 2, 1) := by decide +kernel
theorem dX8_restore_39 : decode cX8_restore 39 = .ok (.iload_n 2, 1) := by decide +kernel
theorem dX8_restore_40 : decode cX8_restore 40 = .ok (.bipush 82, 2) := by decide +kernel
theorem dX8_restore_42 : decode cX8_restore 42 = .ok (.if_icmp .ge 26, 3) := by decide +kernel
theorem dX8_restore_45 : decode cX8_restore 45 = .ok (.aload_n 0, 1) := by decide +kernel
theorem dX8_restore_46 : decode cX8_restore 46 = .ok (.getfield 7, 3) := by decide +kernel
theorem dX8_restore_49 : decode cX8_restore 49 = .ok (.iload_n 2, 1) := by decide +kernel
theorem dX8_restore_50 : decode cX8_restore 50 = .ok (.aload_n 0, 1) := by decide +kernel
theorem dX8_restore_51 : decode cX8_restore 51 = .ok (.getfield 19, 3) := by decide +kernel
theorem dX8_restore_54 : decode cX8_restore 54 = .ok (.bipush 82, 2) := by decide +kernel
theorem dX8_restore_56 : decode cX8_restore 56 = .ok (.iload_n 1, 1) := by decide +kernel
theorem dX8_restore_57 : decode cX8_restore 57 = .ok (.imul, 1) := by decide +kernel
theorem dX8_restore_58 : decode cX8_restore 58 = .ok (.iload_n 2, 1) := by decide +kernel
theorem dX8_restore_59 : decode cX8_restore 59 = .ok (.iadd, 1) := by decide +kernel
theorem dX8_restore_60 : decode cX8_restore 60 = .ok (.iaload, 1) := by decide +kernel
theorem dX8_restore_61 : decode cX8_restore 61 = .ok (.iastore, 1) := by decide +kernel
theorem dX8_restore_62 : decode cX8_restore 62 = .ok (.iinc 2 1, 3) := by decide +kernel
theorem dX8_restore_65 : decode cX8_restore 65 = .ok (.goto (-26), 3) := by decide +kernel
theorem dX8_restore_68 : decode cX8_restore 68 = .ok (.aload_n 0, 1) := by decide +kernel
theorem dX8_restore_69 : decode cX8_restore 69 = .ok (.iconst 0, 1) := by decide +kernel
theorem dX8_restore_70 : decode cX8_restore 70 = .ok (.putfield 99, 3) := by decide +kernel
theorem dX8_restore_73 : decode cX8_restore 73 = .ok (.aload_n 0, 1) := by decide +kernel
theorem dX8_restore_74 : decode cX8_restore 74 = .ok (.aload_n 0, 1) := by decide +kernel
theorem dX8_restore_75 : decode cX8_restore 75 = .ok (.getfield 7, 3) := by decide +kernel
theorem dX8_restore_78 : decode cX8_restore 78 = .ok (.invokevirtual 106, 3) := by decide +kernel
theorem dX8_restore_81 : decode cX8_restore 81 = .ok (.aload_n 0, 1) := by decide +kernel
theorem dX8_restore_82 : decode cX8_restore 82 = .ok (.getfield 7, 3) := by decide +kernel
theorem dX8_restore_85 : decode cX8_restore 85 = .ok (.iconst 0, 1) := by decide +kernel
theorem dX8_restore_86 : decode cX8_restore 86 = .ok (.iaload, 1) := by decide +kernel
theorem dX8_restore_87 : decode cX8_restore 87 = .ok (.ireturn, 1) := by decide +kernel
theorem dJ6_bitCount_0f7a4_0 : decode cJ6_bitCount_0f7a4 0 = .ok (.iload_n 0, 1) := by decide +kernel
theorem dJ6_bitCount_0f7a4_1 : decode cJ6_bitCount_0f7a4 1 = .ok (.iload_n 0, 1) := by decide +kernel
theorem dJ6_bitCount_0f7a4_2 : decode cJ6_bitCount_0f7a4 2 = .ok (.iconst 1, 1) := by decide +kernel
theorem dJ6_bitCount_0f7a4_3 : decode cJ6_bitCount_0f7a4 3 = .ok (.iushr, 1) := by decide +kernel
theorem dJ6_bitCount_0f7a4_4 : decode cJ6_bitCount_0f7a4 4 = .ok (.ldc_w 265, 3) := by decide +kernel
theorem dJ6_bitCount_0f7a4_7 : decode cJ6_bitCount_0f7a4 7 = .ok (.iand, 1) := by decide +kernel
theorem dJ6_bitCount_0f7a4_8 : decode cJ6_bitCount_0f7a4 8 = .ok (.isub, 1) := by decide +kernel
theorem dJ6_bitCount_0f7a4_9 : decode cJ6_bitCount_0f7a4 9 = .ok (.istore_n 0, 1) := by decide +kernel
theorem dJ6_bitCount_0f7a4_10 : decode cJ6_bitCount_0f7a4 10 = .ok (.iload_n 0, 1) := by decide +kernel
theorem dJ6_bitCount_0f7a4_11 : decode cJ6_bitCount_0f7a4 11 = .ok (.ldc_w 266, 3) := by decide +kernel
theorem dJ6_bitCount_0f7a4_14 : decode cJ6_bitCount_0f7a4 14 = .ok (.iand, 1) := by decide +kernel
theorem dJ6_bitCount_0f7a4_15 : decode cJ6_bitCount_0f7a4 15 = .ok (.iload_n 0, 1) := by decide +kernel
theorem dJ6_bitCount_0f7a4_16 : decode cJ6_bitCount_0f7a4 16 = .ok (.iconst 2, 1) := by decide +kernel
theorem dJ6_bitCount_0f7a4_17 : decode cJ6_bitCount_0f7a4 17 = .ok (.iushr, 1) := by decide +kernel
theorem dJ6_bitCount_0f7a4_18 : decode cJ6_bitCount_0f7a4 18 = .ok (.ldc_w 266, 3) := by decide +kernel
theorem dJ6_bitCount_0f7a4_21 : decode cJ6_bitCount_0f7a4 21 = .ok (.iand, 1) := by decide +kernel
theorem dJ6_bitCount_0f7a4_22 : decode cJ6_bitCount_0f7a4 22 = .ok (.iadd, 1) := by decide +kernel
theorem dJ6_bitCount_0f7a4_23 : decode cJ6_bitCount_0f7a4 23 = .ok (.istore_n 0, 1) := by decide +kernel
theorem dJ6_bitCount_0f7a4_24 : decode cJ6_bitCount_0f7a4 24 = .ok (.iload_n 0, 1) := by decide +kernel
theorem dJ6_bitCount_0f7a4_25 : decode cJ6_bitCount_0f7a4 25 = .ok (.iload_n 0, 1) := by decide +kernel
theorem dJ6_bitCount_0f7a4_26 : decode cJ6_bitCount_0f7a4 26 = .ok (.iconst 4, 1) := by decide +kernel
theorem dJ6_bitCount_0f7a4_27 : decode cJ6_bitCount_0f7a4 27 = .ok (.iushr, 1) := by decide +kernel
theorem dJ6_bitCount_0f7a4_28 : decode cJ6_bitCount_0f7a4 28 = .ok (.iadd, 1) := by decide +kernel
theorem dJ6_bitCount_0f7a4_29 : decode cJ6_bitCount_0f7a4 29 = .ok (.ldc_w 267, 3) := by decide +kernel
theorem dJ6_bitCount_0f7a4_32 : decode cJ6_bitCount_0f7a4 32 = .ok (.iand, 1) := by decide +kernel
theorem dJ6_bitCount_0f7a4_33 : decode cJ6_bitCount_0f7a4 33 = .ok (.istore_n 0, 1) := by decide +kernel
theorem dJ6_bitCount_0f7a4_34 : decode cJ6_bitCount_0f7a4 34 = .ok (.iload_n 0, 1) := by decide +kernel
theorem dJ6_bitCount_0f7a4_35 : decode cJ6_bitCount_0f7a4 35 = .ok (.iload_n 0, 1) := by decide +kernel
theorem dJ6_bitCount_0f7a4_36 : decode cJ6_bitCount_0f7a4 36 = .ok (.bipush 8, 2) := by decide +kernel
theorem dJ6_bitCount_0f7a4_38 : decode cJ6_bitCount_0f7a4 38 = .ok (.iushr, 1) := by decide +kernel
theorem dJ6_bitCount_0f7a4_39 : decode cJ6_bitCount_0f7a4 39 = .ok (.iadd, 1) := by decide +kernel
theorem dJ6_bitCount_0f7a4_40 : decode cJ6_bitCount_0f7a4 40 = .ok (.istore_n 0, 1) := by decide +kernel
theorem dJ6_bitCount_0f7a4_41 : decode cJ6_bitCount_0f7a4 41 = .ok (.iload_n 0, 1) := by decide +kernel
theorem dJ6_bitCount_0f7a4_42 : decode cJ6_bitCount_0f7a4 42 = .ok (.iload_n 0, 1) := by decide +kernel
theorem dJ6_bitCount_0f7a4_43 : decode cJ6_bitCount_0f7a4 43 = .ok (.bipush 16, 2) := by decide +kernel
theorem dJ6_bitCount_0f7a4_45 : decode cJ6_bitCount_0f7a4 45 = .ok (.iushr, 1) := by decide +kernel
theorem dJ6_bitCount_0f7a4_46 : decode cJ6_bitCount_0f7a4 46 = .ok (.iadd, 1) := by decide +kernel
theorem dJ6_bitCount_0f7a4_47 : decode cJ6_bitCount_0f7a4 47 = .ok (.istore_n 0, 1) := by decide +kernel
theorem dJ6_bitCount_0f7a4_48 : decode cJ6_bitCount_0f7a4 48 = .ok (.iload_n 0, 1) := by decide +kernel
theorem dJ6_bitCount_0f7a4_49 : decode cJ6_bitCount_0f7a4 49 = .ok (.bipush 63, 2) := by decide +kernel
theorem dJ6_bitCount_0f7a4_51 : decode cJ6_bitCount_0f7a4 51 = .ok (.iand, 1) := by decide +kernel
theorem dJ6_bitCount_0f7a4_52 : decode cJ6_bitCount_0f7a4 52 = .ok (.ireturn, 1) := by decide +kernel
theorem dJ9_max_7cf53_0 : decode cJ9_max_7cf53 0 = .ok (.iload_n 0, 1) := by decide +kernel
theorem dJ9_max_7cf53_1 : decode cJ9_max_7cf53 1 = .ok (.iload_n 1, 1) := by decide +kernel
theorem dJ9_max_7cf53_2 : decode cJ9_max_7cf53 2 = .ok (.if_icmp .lt 7, 3) := by decide +kernel
theorem dJ9_max_7cf53_5 : decode cJ9_max_7cf53 5 = .ok (.iload_n 0, 1) := by decide +kernel
theorem dJ9_max_7cf53_6 : decode cJ9_max_7cf53 6 = .ok (.goto 4, 3) := by decide +kernel
theorem dJ9_max_7cf53_9 : decode cJ9_max_7cf53 9 = .ok (.iload_n 1, 1) := by decide +kernel
theorem dJ9_max_7cf53_10 : decode cJ9_max_7cf53 10 = .ok (.ireturn, 1) := by decide +kernel
theorem dJ9_min_7cf53_0 : decode cJ9_min_7cf53 0 = .ok (.iload_n 0, 1) := by decide +kernel
theorem dJ9_min_7cf53_1 : decode cJ9_min_7cf53 1 = .ok (.iload_n 1, 1) := by decide +kernel
theorem dJ9_min_7cf53_2 : decode cJ9_min_7cf53 2 = .ok (.if_icmp .gt 7, 3) := by decide +kernel
theorem dJ9_min_7cf53_5 : decode cJ9_min_7cf53 5 = .ok (.iload_n 0, 1) := by decide +kernel
theorem dJ9_min_7cf53_6 : decode cJ9_min_7cf53 6 = .ok (.goto 4, 3) := by decide +kernel
theorem dJ9_min_7cf53_9 : decode cJ9_min_7cf53 9 = .ok (.iload_n 1, 1) := by decide +kernel
theorem dJ9_min_7cf53_10 : decode cJ9_min_7cf53 10 = .ok (.ireturn, 1) := by decide +kernel
theorem dL_append_0 : decode cL_append 0 = .ok (.aload_n 2, 1) := by decide +kernel
theorem dL_append_1 : decode cL_append 1 = .ok (.iconst 0, 1) := by decide +kernel
theorem dL_append_2 : decode cL_append 2 = .ok (.aload_n 0, 1) := by decide +kernel
theorem dL_append_3 : decode cL_append 3 = .ok (.iload_n 1, 1) := by decide +kernel
theorem dL_append_4 : decode cL_append 4 = .ok (.invokevirtual 7, 3) := by decide +kernel
theorem dL_append_7 : decode cL_append 7 = .ok (.i2l, 1) := by decide +kernel
theorem dL_append_8 : decode cL_append 8 = .ok (.lastore, 1) := by decide +kernel
theorem dL_append_9 : decode cL_append 9 = .ok (.goto 9, 3) := by decide +kernel
theorem dL_append_12 : decode cL_append 12 = .ok (.astore_n 3, 1) := by decide +kernel
theorem dL_append_13 : decode cL_append 13 = .ok (.iconst 1, 1) := by decide +kernel
theorem dL_append_14 : decode cL_append 14 = .ok (.ireturn, 1) := by decide +kernel
theorem dL_append_15 : decode cL_append 15 = .ok (.astore_n 3, 1) := by decide +kernel
theorem dL_append_16 : decode cL_append 16 = .ok (.iconst 2, 1) := by decide +kernel
theorem dL_append_17 : decode cL_append 17 = .ok (.ireturn, 1) := by decide +kernel
theorem dL_append_18 : decode cL_append 18 = .ok (.iconst 0, 1) := by decide +kernel
theorem dL_append_19 : decode cL_append 19 = .ok (.ireturn, 1) := by decide +kernel
theorem dL_load_0 : decode cL_load 0 = .ok (.aload_n 1, 1) := by decide +kernel
theorem dL_load_1 : decode cL_load 1 = .ok (.iconst 0, 1) := by decide +kernel
theorem dL_load_2 : decode cL_load 2 = .ok (.aload_n 0, 1) := by decide +kernel
theorem dL_load_3 : decode cL_load 3 = .ok (.invokevirtual 17, 3) := by decide +kernel
theorem dL_load_6 : decode cL_load 6 = .ok (.i2l, 1) := by decide +kernel
theorem dL_load_7 : decode cL_load 7 = .ok (.lastore, 1) := by decide +kernel
theorem dL_load_8 : decode cL_load 8 = .ok (.goto 6, 3) := by decide +kernel
theorem dL_load_11 : decode cL_load 11 = .ok (.astore_n 2, 1) := by decide +kernel
theorem dL_load_12 : decode cL_load 12 = .ok (.iconst 1, 1) := by decide +kernel
theorem dL_load_13 : decode cL_load 13 = .ok (.ireturn, 1) := by decide +kernel
theorem dL_load_14 : decode cL_load 14 = .ok (.iconst 0, 1) := by decide +kernel
theorem dL_load_15 : decode cL_load 15 = .ok (.ireturn, 1) := by decide +kernel
theorem dL_isParity_0 : decode cL_isParity 0 = .ok (.aload_n 2, 1) := by decide +kernel
theorem dL_isParity_1 : decode cL_isParity 1 = .ok (.iconst 0, 1) := by decide +kernel
theorem dL_isParity_2 : decode cL_isParity 2 = .ok (.aload_n 0, 1) := by decide +kernel
theorem dL_isParity_3 : decode cL_isParity 3 = .ok (.iload_n 1, 1) := by decide +kernel
theorem dL_isParity_4 : decode cL_isParity 4 = .ok (.invokevirtual 21, 3) := by decide +kernel
theorem dL_isParity_7 : decode cL_isParity 7 = .ok (.ifCond .eq 7, 3) := by decide +kernel
theorem dL_isParity_10 : decode cL_isParity 10 = .ok (.lconst 1, 1) := by decide +kernel
theorem dL_isParity_11 : decode cL_isParity 11 = .ok (.goto 4, 3) := by decide +kernel
theorem dL_isParity_14 : decode cL_isParity 14 = .ok (.lconst 0, 1) := by decide +kernel
theorem dL_isParity_15 : decode cL_isParity 15 = .ok (.lastore, 1) := by decide +kernel
theorem dL_isParity_16 : decode cL_isParity 16 = .ok (.goto 6, 3) := by decide +kernel
theorem dL_isParity_19 : decode cL_isParity 19 = .ok (.astore_n 3, 1) := by decide +kernel
theorem dL_isParity_20 : decode cL_isParity 20 = .ok (.iconst 1, 1) := by decide +kernel
theorem dL_isParity_21 : decode cL_isParity 21 = .ok (.ireturn, 1) := by decide +kernel
theorem dL_isParity_22 : decode cL_isParity 22 = .ok (.iconst 0, 1) := by decide +kernel
theorem dL_isParity_23 : decode cL_isParity 23 = .ok (.ireturn, 1) := by decide +kernel
theorem dL_variables_0 : decode cL_variables 0 = .ok (.aload_n 2, 1) := by decide +kernel
theorem dL_variables_1 : decode cL_variables 1 = .ok (.iconst 0, 1) := by decide +kernel
theorem dL_variables_2 : decode cL_variables 2 = .ok (.aload_n 0, 1) := by decide +kernel
theorem dL_variables_3 : decode cL_variables 3 = .ok (.iload_n 1, 1) := by decide +kernel
theorem dL_variables_4 : decode cL_variables 4 = .ok (.invokevirtual 27, 3) := by decide +kernel
theorem dL_variables_7 : decode cL_variables 7 = .ok (.i2l, 1) := by decide +kernel
theorem dL_variables_8 : decode cL_variables 8 = .ok (.lastore, 1) := by decide +kernel
theorem dL_variables_9 : decode cL_variables 9 = .ok (.goto 6, 3) := by decide +kernel
theorem dL_variables_12 : decode cL_variables 12 = .ok (.astore_n 3, 1) := by decide +kernel
theorem dL_variables_13 : decode cL_variables 13 = .ok (.iconst 1, 1) := by decide +kernel
theorem dL_variables_14 : decode cL_variables 14 = .ok (.ireturn, 1) := by decide +kernel
theorem dL_variables_15 : decode cL_variables 15 = .ok (.iconst 0, 1) := by decide +kernel
theorem dL_variables_16 : decode cL_variables 16 = .ok (.ireturn, 1) := by decide +kernel
theorem dL_negated_0 : decode cL_negated 0 = .ok (.aload_n 2, 1) := by decide +kernel
theorem dL_negated_1 : decode cL_negated 1 = .ok (.iconst 0, 1) := by decide +kernel
theorem dL_negated_2 : decode cL_negated 2 = .ok (.aload_n 0, 1) := by decide +kernel
theorem dL_negated_3 : decode cL_negated 3 = .ok (.iload_n 1, 1) := by decide +kernel
theorem dL_negated_4 : decode cL_negated 4 = .ok (.invokevirtual 30, 3) := by decide +kernel
theorem dL_negated_7 : decode cL_negated 7 = .ok (.i2l, 1) := by decide +kernel
theorem dL_negated_8 : decode cL_negated 8 = .ok (.lastore, 1) := by decide +kernel
theorem dL_negated_9 : decode cL_negated 9 = .ok (.goto 6, 3) := by decide +kernel
theorem dL_negated_12 : decode cL_negated 12 = .ok (.astore_n 3, 1) := by decide +kernel
theorem dL_negated_13 : decode cL_negated 13 = .ok (.iconst 1, 1) := by decide +kernel
theorem dL_negated_14 : decode cL_negated 14 = .ok (.ireturn, 1) := by decide +kernel
theorem dL_negated_15 : decode cL_negated 15 = .ok (.iconst 0, 1) := by decide +kernel
theorem dL_negated_16 : decode cL_negated 16 = .ok (.ireturn, 1) := by decide +kernel
theorem dL_addClause_0 : decode cL_addClause 0 = .ok (.aload_n 3, 1) := by decide +kernel
theorem dL_addClause_1 : decode cL_addClause 1 = .ok (.iconst 0, 1) := by decide +kernel
theorem dL_addClause_2 : decode cL_addClause 2 = .ok (.aload_n 0, 1) := by decide +kernel
theorem dL_addClause_3 : decode cL_addClause 3 = .ok (.iload_n 1, 1) := by decide +kernel
theorem dL_addClause_4 : decode cL_addClause 4 = .ok (.iload_n 2, 1) := by decide +kernel
theorem dL_addClause_5 : decode cL_addClause 5 = .ok (.invokevirtual 33, 3) := by decide +kernel
theorem dL_addClause_8 : decode cL_addClause 8 = .ok (.i2l, 1) := by decide +kernel
theorem dL_addClause_9 : decode cL_addClause 9 = .ok (.lastore, 1) := by decide +kernel
theorem dL_addClause_10 : decode cL_addClause 10 = .ok (.goto 11, 3) := by decide +kernel
theorem dL_addClause_13 : decode cL_addClause 13 = .ok (.astore 4, 2) := by decide +kernel
theorem dL_addClause_15 : decode cL_addClause 15 = .ok (.iconst 1, 1) := by decide +kernel
theorem dL_addClause_16 : decode cL_addClause 16 = .ok (.ireturn, 1) := by decide +kernel
theorem dL_addClause_17 : decode cL_addClause 17 = .ok (.astore 4, 2) := by decide +kernel
theorem dL_addClause_19 : decode cL_addClause 19 = .ok (.iconst 2, 1) := by decide +kernel
theorem dL_addClause_20 : decode cL_addClause 20 = .ok (.ireturn, 1) := by decide +kernel
theorem dL_addClause_21 : decode cL_addClause 21 = .ok (.iconst 0, 1) := by decide +kernel
theorem dL_addClause_22 : decode cL_addClause 22 = .ok (.ireturn, 1) := by decide +kernel
theorem dL_addParity_0 : decode cL_addParity 0 = .ok (.aload_n 3, 1) := by decide +kernel
theorem dL_addParity_1 : decode cL_addParity 1 = .ok (.iconst 0, 1) := by decide +kernel
theorem dL_addParity_2 : decode cL_addParity 2 = .ok (.aload_n 0, 1) := by decide +kernel
theorem dL_addParity_3 : decode cL_addParity 3 = .ok (.iload_n 1, 1) := by decide +kernel
theorem dL_addParity_4 : decode cL_addParity 4 = .ok (.iload_n 2, 1) := by decide +kernel
theorem dL_addParity_5 : decode cL_addParity 5 = .ok (.invokevirtual 37, 3) := by decide +kernel
theorem dL_addParity_8 : decode cL_addParity 8 = .ok (.i2l, 1) := by decide +kernel
theorem dL_addParity_9 : decode cL_addParity 9 = .ok (.lastore, 1) := by decide +kernel
theorem dL_addParity_10 : decode cL_addParity 10 = .ok (.goto 11, 3) := by decide +kernel
theorem dL_addParity_13 : decode cL_addParity 13 = .ok (.astore 4, 2) := by decide +kernel
theorem dL_addParity_15 : decode cL_addParity 15 = .ok (.iconst 1, 1) := by decide +kernel
theorem dL_addParity_16 : decode cL_addParity 16 = .ok (.ireturn, 1) := by decide +kernel
theorem dL_addParity_17 : decode cL_addParity 17 = .ok (.astore 4, 2) := by decide +kernel
theorem dL_addParity_19 : decode cL_addParity 19 = .ok (.iconst 2, 1) := by decide +kernel
theorem dL_addParity_20 : decode cL_addParity 20 = .ok (.ireturn, 1) := by decide +kernel
theorem dL_addParity_21 : decode cL_addParity 21 = .ok (.iconst 0, 1) := by decide +kernel
theorem dL_addParity_22 : decode cL_addParity 22 = .ok (.ireturn, 1) := by decide +kernel
theorem dL_removeConstraint_0 : decode cL_removeConstraint 0 = .ok (.aload_n 2, 1) := by decide +kernel
theorem dL_removeConstraint_1 : decode cL_removeConstraint 1 = .ok (.iconst 0, 1) := by decide +kernel
theorem dL_removeConstraint_2 : decode cL_removeConstraint 2 = .ok (.aload_n 0, 1) := by decide +kernel
theorem dL_removeConstraint_3 : decode cL_removeConstraint 3 = .ok (.iload_n 1, 1) := by decide +kernel
theorem dL_removeConstraint_4 : decode cL_removeConstraint 4 = .ok (.invokevirtual 40, 3) := by decide +kernel
theorem dL_removeConstraint_7 : decode cL_removeConstraint 7 = .ok (.i2l, 1) := by decide +kernel
theorem dL_removeConstraint_8 : decode cL_removeConstraint 8 = .ok (.lastore, 1) := by decide +kernel
theorem dL_removeConstraint_9 : decode cL_removeConstraint 9 = .ok (.goto 6, 3) := by decide +kernel
theorem dL_removeConstraint_12 : decode cL_removeConstraint 12 = .ok (.astore_n 3, 1) := by decide +kernel
theorem dL_removeConstraint_13 : decode cL_removeConstraint 13 = .ok (.iconst 1, 1) := by decide +kernel
theorem dL_removeConstraint_14 : decode cL_removeConstraint 14 = .ok (.ireturn, 1) := by decide +kernel
theorem dL_removeConstraint_15 : decode cL_removeConstraint 15 = .ok (.iconst 0, 1) := by decide +kernel
theorem dL_removeConstraint_16 : decode cL_removeConstraint 16 = .ok (.ireturn, 1) := by decide +kernel
theorem dL_resolve_0 : decode cL_resolve 0 = .ok (.aload 4, 2) := by decide +kernel
theorem dL_resolve_2 : decode cL_resolve 2 = .ok (.iconst 0, 1) := by decide +kernel
theorem dL_resolve_3 : decode cL_resolve 3 = .ok (.aload_n 0, 1) := by decide +kernel
theorem dL_resolve_4 : decode cL_resolve 4 = .ok (.iload_n 1, 1) := by decide +kernel
theorem dL_resolve_5 : decode cL_resolve 5 = .ok (.iload_n 2, 1) := by decide +kernel
theorem dL_resolve_6 : decode cL_resolve 6 = .ok (.iload_n 3, 1) := by decide +kernel
theorem dL_resolve_7 : decode cL_resolve 7 = .ok (.invokevirtual 43, 3) := by decide +kernel
theorem dL_resolve_10 : decode cL_resolve 10 = .ok (.i2l, 1) := by decide +kernel
theorem dL_resolve_11 : decode cL_resolve 11 = .ok (.lastore, 1) := by decide +kernel
theorem dL_resolve_12 : decode cL_resolve 12 = .ok (.goto 11, 3) := by decide +kernel
theorem dL_resolve_15 : decode cL_resolve 15 = .ok (.astore 5, 2) := by decide +kernel
theorem dL_resolve_17 : decode cL_resolve 17 = .ok (.iconst 1, 1) := by decide +kernel
theorem dL_resolve_18 : decode cL_resolve 18 = .ok (.ireturn, 1) := by decide +kernel
theorem dL_resolve_19 : decode cL_resolve 19 = .ok (.astore 5, 2) := by decide +kernel
theorem dL_resolve_21 : decode cL_resolve 21 = .ok (.iconst 2, 1) := by decide +kernel
theorem dL_resolve_22 : decode cL_resolve 22 = .ok (.ireturn, 1) := by decide +kernel
theorem dL_resolve_23 : decode cL_resolve 23 = .ok (.iconst 0, 1) := by decide +kernel
theorem dL_resolve_24 : decode cL_resolve 24 = .ok (.ireturn, 1) := by decide +kernel
theorem dL_sum_0 : decode cL_sum 0 = .ok (.aload_n 3, 1) := by decide +kernel
theorem dL_sum_1 : decode cL_sum 1 = .ok (.iconst 0, 1) := by decide +kernel
theorem dL_sum_2 : decode cL_sum 2 = .ok (.aload_n 0, 1) := by decide +kernel
theorem dL_sum_3 : decode cL_sum 3 = .ok (.iload_n 1, 1) := by decide +kernel
theorem dL_sum_4 : decode cL_sum 4 = .ok (.iload_n 2, 1) := by decide +kernel
theorem dL_sum_5 : decode cL_sum 5 = .ok (.invokevirtual 47, 3) := by decide +kernel
theorem dL_sum_8 : decode cL_sum 8 = .ok (.i2l, 1) := by decide +kernel
theorem dL_sum_9 : decode cL_sum 9 = .ok (.lastore, 1) := by decide +kernel
theorem dL_sum_10 : decode cL_sum 10 = .ok (.goto 11, 3) := by decide +kernel
theorem dL_sum_13 : decode cL_sum 13 = .ok (.astore 4, 2) := by decide +kernel
theorem dL_sum_15 : decode cL_sum 15 = .ok (.iconst 1, 1) := by decide +kernel
theorem dL_sum_16 : decode cL_sum 16 = .ok (.ireturn, 1) := by decide +kernel
theorem dL_sum_17 : decode cL_sum 17 = .ok (.astore 4, 2) := by decide +kernel
theorem dL_sum_19 : decode cL_sum 19 = .ok (.iconst 2, 1) := by decide +kernel
theorem dL_sum_20 : decode cL_sum 20 = .ok (.ireturn, 1) := by decide +kernel
theorem dL_sum_21 : decode cL_sum 21 = .ok (.iconst 0, 1) := by decide +kernel
theorem dL_sum_22 : decode cL_sum 22 = .ok (.ireturn, 1) := by decide +kernel
theorem dL_decide_0 : decode cL_decide 0 = .ok (.aload_n 2, 1) := by decide +kernel
theorem dL_decide_1 : decode cL_decide 1 = .ok (.iconst 0, 1) := by decide +kernel
theorem dL_decide_2 : decode cL_decide 2 = .ok (.aload_n 0, 1) := by decide +kernel
theorem dL_decide_3 : decode cL_decide 3 = .ok (.iload_n 1, 1) := by decide +kernel
theorem dL_decide_4 : decode cL_decide 4 = .ok (.invokevirtual 50, 3) := by decide +kernel
theorem dL_decide_7 : decode cL_decide 7 = .ok (.i2l, 1) := by decide +kernel
theorem dL_decide_8 : decode cL_decide 8 = .ok (.lastore, 1) := by decide +kernel
theorem dL_decide_9 : decode cL_decide 9 = .ok (.goto 9, 3) := by decide +kernel
theorem dL_decide_12 : decode cL_decide 12 = .ok (.astore_n 3, 1) := by decide +kernel
theorem dL_decide_13 : decode cL_decide 13 = .ok (.iconst 1, 1) := by decide +kernel
theorem dL_decide_14 : decode cL_decide 14 = .ok (.ireturn, 1) := by decide +kernel
theorem dL_decide_15 : decode cL_decide 15 = .ok (.astore_n 3, 1) := by decide +kernel
theorem dL_decide_16 : decode cL_decide 16 = .ok (.iconst 2, 1) := by decide +kernel
theorem dL_decide_17 : decode cL_decide 17 = .ok (.ireturn, 1) := by decide +kernel
theorem dL_decide_18 : decode cL_decide 18 = .ok (.iconst 0, 1) := by decide +kernel
theorem dL_decide_19 : decode cL_decide 19 = .ok (.ireturn, 1) := by decide +kernel
theorem dL_backtrack_0 : decode cL_backtrack 0 = .ok (.aload_n 2, 1) := by decide +kernel
theorem dL_backtrack_1 : decode cL_backtrack 1 = .ok (.iconst 0, 1) := by decide +kernel
theorem dL_backtrack_2 : decode cL_backtrack 2 = .ok (.aload_n 0, 1) := by decide +kernel
theorem dL_backtrack_3 : decode cL_backtrack 3 = .ok (.iload_n 1, 1) := by decide +kernel
theorem dL_backtrack_4 : decode cL_backtrack 4 = .ok (.invokevirtual 53, 3) := by decide +kernel
theorem dL_backtrack_7 : decode cL_backtrack 7 = .ok (.i2l, 1) := by decide +kernel
theorem dL_backtrack_8 : decode cL_backtrack 8 = .ok (.lastore, 1) := by decide +kernel
theorem dL_backtrack_9 : decode cL_backtrack 9 = .ok (.goto 6, 3) := by decide +kernel
theorem dL_backtrack_12 : decode cL_backtrack 12 = .ok (.astore_n 3, 1) := by decide +kernel
theorem dL_backtrack_13 : decode cL_backtrack 13 = .ok (.iconst 1, 1) := by decide +kernel
theorem dL_backtrack_14 : decode cL_backtrack 14 = .ok (.ireturn, 1) := by decide +kernel
theorem dL_backtrack_15 : decode cL_backtrack 15 = .ok (.iconst 0, 1) := by decide +kernel
theorem dL_backtrack_16 : decode cL_backtrack 16 = .ok (.ireturn, 1) := by decide +kernel
theorem dL_learn_0 : decode cL_learn 0 = .ok (.aload_n 1, 1) := by decide +kernel
theorem dL_learn_1 : decode cL_learn 1 = .ok (.iconst 0, 1) := by decide +kernel
theorem dL_learn_2 : decode cL_learn 2 = .ok (.aload_n 0, 1) := by decide +kernel
theorem dL_learn_3 : decode cL_learn 3 = .ok (.invokevirtual 56, 3) := by decide +kernel
theorem dL_learn_6 : decode cL_learn 6 = .ok (.i2l, 1) := by decide +kernel
theorem dL_learn_7 : decode cL_learn 7 = .ok (.lastore, 1) := by decide +kernel
theorem dL_learn_8 : decode cL_learn 8 = .ok (.goto 6, 3) := by decide +kernel
theorem dL_learn_11 : decode cL_learn 11 = .ok (.astore_n 2, 1) := by decide +kernel
theorem dL_learn_12 : decode cL_learn 12 = .ok (.iconst 1, 1) := by decide +kernel
theorem dL_learn_13 : decode cL_learn 13 = .ok (.ireturn, 1) := by decide +kernel
theorem dL_learn_14 : decode cL_learn 14 = .ok (.iconst 0, 1) := by decide +kernel
theorem dL_learn_15 : decode cL_learn 15 = .ok (.ireturn, 1) := by decide +kernel
theorem dL_undo_0 : decode cL_undo 0 = .ok (.aload_n 1, 1) := by decide +kernel
theorem dL_undo_1 : decode cL_undo 1 = .ok (.iconst 0, 1) := by decide +kernel
theorem dL_undo_2 : decode cL_undo 2 = .ok (.aload_n 0, 1) := by decide +kernel
theorem dL_undo_3 : decode cL_undo 3 = .ok (.invokevirtual 59, 3) := by decide +kernel
theorem dL_undo_6 : decode cL_undo 6 = .ok (.i2l, 1) := by decide +kernel
theorem dL_undo_7 : decode cL_undo 7 = .ok (.lastore, 1) := by decide +kernel
theorem dL_undo_8 : decode cL_undo 8 = .ok (.goto 6, 3) := by decide +kernel
theorem dL_undo_11 : decode cL_undo 11 = .ok (.astore_n 2, 1) := by decide +kernel
theorem dL_undo_12 : decode cL_undo 12 = .ok (.iconst 1, 1) := by decide +kernel
theorem dL_undo_13 : decode cL_undo 13 = .ok (.ireturn, 1) := by decide +kernel
theorem dL_undo_14 : decode cL_undo 14 = .ok (.iconst 0, 1) := by decide +kernel
theorem dL_undo_15 : decode cL_undo 15 = .ok (.ireturn, 1) := by decide +kernel
theorem dL_value_0 : decode cL_value 0 = .ok (.aload_n 2, 1) := by decide +kernel
theorem dL_value_1 : decode cL_value 1 = .ok (.iconst 0, 1) := by decide +kernel
theorem dL_value_2 : decode cL_value 2 = .ok (.aload_n 0, 1) := by decide +kernel
theorem dL_value_3 : decode cL_value 3 = .ok (.iload_n 1, 1) := by decide +kernel
theorem dL_value_4 : decode cL_value 4 = .ok (.invokevirtual 62, 3) := by decide +kernel
theorem dL_value_7 : decode cL_value 7 = .ok (.i2l, 1) := by decide +kernel
theorem dL_value_8 : decode cL_value 8 = .ok (.lastore, 1) := by decide +kernel
theorem dL_value_9 : decode cL_value 9 = .ok (.goto 6, 3) := by decide +kernel
theorem dL_value_12 : decode cL_value 12 = .ok (.astore_n 3, 1) := by decide +kernel
theorem dL_value_13 : decode cL_value 13 = .ok (.iconst 1, 1) := by decide +kernel
theorem dL_value_14 : decode cL_value 14 = .ok (.ireturn, 1) := by decide +kernel
theorem dL_value_15 : decode cL_value 15 = .ok (.iconst 0, 1) := by decide +kernel
theorem dL_value_16 : decode cL_value 16 = .ok (.ireturn, 1) := by decide +kernel
theorem dL_trailLiteral_0 : decode cL_trailLiteral 0 = .ok (.aload_n 2, 1) := by decide +kernel
theorem dL_trailLiteral_1 : decode cL_trailLiteral 1 = .ok (.iconst 0, 1) := by decide +kernel
theorem dL_trailLiteral_2 : decode cL_trailLiteral 2 = .ok (.aload_n 0, 1) := by decide +kernel
theorem dL_trailLiteral_3 : decode cL_trailLiteral 3 = .ok (.iload_n 1, 1) := by decide +kernel
theorem dL_trailLiteral_4 : decode cL_trailLiteral 4 = .ok (.invokevirtual 65, 3) := by decide +kernel
theorem dL_trailLiteral_7 : decode cL_trailLiteral 7 = .ok (.i2l, 1) := by decide +kernel
theorem dL_trailLiteral_8 : decode cL_trailLiteral 8 = .ok (.lastore, 1) := by decide +kernel
theorem dL_trailLiteral_9 : decode cL_trailLiteral 9 = .ok (.goto 6, 3) := by decide +kernel
theorem dL_trailLiteral_12 : decode cL_trailLiteral 12 = .ok (.astore_n 3, 1) := by decide +kernel
theorem dL_trailLiteral_13 : decode cL_trailLiteral 13 = .ok (.iconst 1, 1) := by decide +kernel
theorem dL_trailLiteral_14 : decode cL_trailLiteral 14 = .ok (.ireturn, 1) := by decide +kernel
theorem dL_trailLiteral_15 : decode cL_trailLiteral 15 = .ok (.iconst 0, 1) := by decide +kernel
theorem dL_trailLiteral_16 : decode cL_trailLiteral 16 = .ok (.ireturn, 1) := by decide +kernel
theorem dL_reason_0 : decode cL_reason 0 = .ok (.aload_n 2, 1) := by decide +kernel
theorem dL_reason_1 : decode cL_reason 1 = .ok (.iconst 0, 1) := by decide +kernel
theorem dL_reason_2 : decode cL_reason 2 = .ok (.aload_n 0, 1) := by decide +kernel
theorem dL_reason_3 : decode cL_reason 3 = .ok (.iload_n 1, 1) := by decide +kernel
theorem dL_reason_4 : decode cL_reason 4 = .ok (.invokevirtual 68, 3) := by decide +kernel
theorem dL_reason_7 : decode cL_reason 7 = .ok (.i2l, 1) := by decide +kernel
theorem dL_reason_8 : decode cL_reason 8 = .ok (.lastore, 1) := by decide +kernel
theorem dL_reason_9 : decode cL_reason 9 = .ok (.goto 6, 3) := by decide +kernel
theorem dL_reason_12 : decode cL_reason 12 = .ok (.astore_n 3, 1) := by decide +kernel
theorem dL_reason_13 : decode cL_reason 13 = .ok (.iconst 1, 1) := by decide +kernel
theorem dL_reason_14 : decode cL_reason 14 = .ok (.ireturn, 1) := by decide +kernel
theorem dL_reason_15 : decode cL_reason 15 = .ok (.iconst 0, 1) := by decide +kernel
theorem dL_reason_16 : decode cL_reason 16 = .ok (.ireturn, 1) := by decide +kernel
theorem dL_learnedClause_0 : decode cL_learnedClause 0 = .ok (.aload_n 1, 1) := by decide +kernel
theorem dL_learnedClause_1 : decode cL_learnedClause 1 = .ok (.iconst 0, 1) := by decide +kernel
theorem dL_learnedClause_2 : decode cL_learnedClause 2 = .ok (.aload_n 0, 1) := by decide +kernel
theorem dL_learnedClause_3 : decode cL_learnedClause 3 = .ok (.invokevirtual 71, 3) := by decide +kernel
theorem dL_learnedClause_6 : decode cL_learnedClause 6 = .ok (.i2l, 1) := by decide +kernel
theorem dL_learnedClause_7 : decode cL_learnedClause 7 = .ok (.lastore, 1) := by decide +kernel
theorem dL_learnedClause_8 : decode cL_learnedClause 8 = .ok (.goto 6, 3) := by decide +kernel
theorem dL_learnedClause_11 : decode cL_learnedClause 11 = .ok (.astore_n 2, 1) := by decide +kernel
theorem dL_learnedClause_12 : decode cL_learnedClause 12 = .ok (.iconst 1, 1) := by decide +kernel
theorem dL_learnedClause_13 : decode cL_learnedClause 13 = .ok (.ireturn, 1) := by decide +kernel
theorem dL_learnedClause_14 : decode cL_learnedClause 14 = .ok (.iconst 0, 1) := by decide +kernel
theorem dL_learnedClause_15 : decode cL_learnedClause 15 = .ok (.ireturn, 1) := by decide +kernel
theorem dL_impliesClause_0 : decode cL_impliesClause 0 = .ok (.aload_n 3, 1) := by decide +kernel
theorem dL_impliesClause_1 : decode cL_impliesClause 1 = .ok (.iconst 0, 1) := by decide +kernel
theorem dL_impliesClause_2 : decode cL_impliesClause 2 = .ok (.aload_n 0, 1) := by decide +kernel
theorem dL_impliesClause_3 : decode cL_impliesClause 3 = .ok (.iload_n 1, 1) := by decide +kernel
theorem dL_impliesClause_4 : decode cL_impliesClause 4 = .ok (.iload_n 2, 1) := by decide +kernel
theorem dL_impliesClause_5 : decode cL_impliesClause 5 = .ok (.invokevirtual 74, 3) := by decide +kernel
theorem dL_impliesClause_8 : decode cL_impliesClause 8 = .ok (.ifCond .eq 7, 3) := by decide +kernel
theorem dL_impliesClause_11 : decode cL_impliesClause 11 = .ok (.lconst 1, 1) := by decide +kernel
theorem dL_impliesClause_12 : decode cL_impliesClause 12 = .ok (.goto 4, 3) := by decide +kernel
theorem dL_impliesClause_15 : decode cL_impliesClause 15 = .ok (.lconst 0, 1) := by decide +kernel
theorem dL_impliesClause_16 : decode cL_impliesClause 16 = .ok (.lastore, 1) := by decide +kernel
theorem dL_impliesClause_17 : decode cL_impliesClause 17 = .ok (.goto 7, 3) := by decide +kernel
theorem dL_impliesClause_20 : decode cL_impliesClause 20 = .ok (.astore 4, 2) := by decide +kernel
theorem dL_impliesClause_22 : decode cL_impliesClause 22 = .ok (.iconst 1, 1) := by decide +kernel
theorem dL_impliesClause_23 : decode cL_impliesClause 23 = .ok (.ireturn, 1) := by decide +kernel
theorem dL_impliesClause_24 : decode cL_impliesClause 24 = .ok (.iconst 0, 1) := by decide +kernel
theorem dL_impliesClause_25 : decode cL_impliesClause 25 = .ok (.ireturn, 1) := by decide +kernel
theorem dL_impliesParity_0 : decode cL_impliesParity 0 = .ok (.aload_n 3, 1) := by decide +kernel
theorem dL_impliesParity_1 : decode cL_impliesParity 1 = .ok (.iconst 0, 1) := by decide +kernel
theorem dL_impliesParity_2 : decode cL_impliesParity 2 = .ok (.aload_n 0, 1) := by decide +kernel
theorem dL_impliesParity_3 : decode cL_impliesParity 3 = .ok (.iload_n 1, 1) := by decide +kernel
theorem dL_impliesParity_4 : decode cL_impliesParity 4 = .ok (.iload_n 2, 1) := by decide +kernel
theorem dL_impliesParity_5 : decode cL_impliesParity 5 = .ok (.invokevirtual 78, 3) := by decide +kernel
theorem dL_impliesParity_8 : decode cL_impliesParity 8 = .ok (.ifCond .eq 7, 3) := by decide +kernel
theorem dL_impliesParity_11 : decode cL_impliesParity 11 = .ok (.lconst 1, 1) := by decide +kernel
theorem dL_impliesParity_12 : decode cL_impliesParity 12 = .ok (.goto 4, 3) := by decide +kernel
theorem dL_impliesParity_15 : decode cL_impliesParity 15 = .ok (.lconst 0, 1) := by decide +kernel
theorem dL_impliesParity_16 : decode cL_impliesParity 16 = .ok (.lastore, 1) := by decide +kernel
theorem dL_impliesParity_17 : decode cL_impliesParity 17 = .ok (.goto 7, 3) := by decide +kernel
theorem dL_impliesParity_20 : decode cL_impliesParity 20 = .ok (.astore 4, 2) := by decide +kernel
theorem dL_impliesParity_22 : decode cL_impliesParity 22 = .ok (.iconst 1, 1) := by decide +kernel
theorem dL_impliesParity_23 : decode cL_impliesParity 23 = .ok (.ireturn, 1) := by decide +kernel
theorem dL_impliesParity_24 : decode cL_impliesParity 24 = .ok (.iconst 0, 1) := by decide +kernel
theorem dL_impliesParity_25 : decode cL_impliesParity 25 = .ok (.ireturn, 1) := by decide +kernel
theorem dL_eliminatedRow_0 : decode cL_eliminatedRow 0 = .ok (.aload_n 2, 1) := by decide +kernel
theorem dL_eliminatedRow_1 : decode cL_eliminatedRow 1 = .ok (.iconst 0, 1) := by decide +kernel
theorem dL_eliminatedRow_2 : decode cL_eliminatedRow 2 = .ok (.aload_n 0, 1) := by decide +kernel
theorem dL_eliminatedRow_3 : decode cL_eliminatedRow 3 = .ok (.iload_n 1, 1) := by decide +kernel
theorem dL_eliminatedRow_4 : decode cL_eliminatedRow 4 = .ok (.invokevirtual 81, 3) := by decide +kernel
theorem dL_eliminatedRow_7 : decode cL_eliminatedRow 7 = .ok (.i2l, 1) := by decide +kernel
theorem dL_eliminatedRow_8 : decode cL_eliminatedRow 8 = .ok (.lastore, 1) := by decide +kernel
theorem dL_eliminatedRow_9 : decode cL_eliminatedRow 9 = .ok (.goto 6, 3) := by decide +kernel
theorem dL_eliminatedRow_12 : decode cL_eliminatedRow 12 = .ok (.astore_n 3, 1) := by decide +kernel
theorem dL_eliminatedRow_13 : decode cL_eliminatedRow 13 = .ok (.iconst 1, 1) := by decide +kernel
theorem dL_eliminatedRow_14 : decode cL_eliminatedRow 14 = .ok (.ireturn, 1) := by decide +kernel
theorem dL_eliminatedRow_15 : decode cL_eliminatedRow 15 = .ok (.iconst 0, 1) := by decide +kernel
theorem dL_eliminatedRow_16 : decode cL_eliminatedRow 16 = .ok (.ireturn, 1) := by decide +kernel
theorem dL_save_0 : decode cL_save 0 = .ok (.aload_n 2, 1) := by decide +kernel
theorem dL_save_1 : decode cL_save 1 = .ok (.iconst 0, 1) := by decide +kernel
theorem dL_save_2 : decode cL_save 2 = .ok (.aload_n 0, 1) := by decide +kernel
theorem dL_save_3 : decode cL_save 3 = .ok (.iload_n 1, 1) := by decide +kernel
theorem dL_save_4 : decode cL_save 4 = .ok (.invokevirtual 84, 3) := by decide +kernel
theorem dL_save_7 : decode cL_save 7 = .ok (.i2l, 1) := by decide +kernel
theorem dL_save_8 : decode cL_save 8 = .ok (.lastore, 1) := by decide +kernel
theorem dL_save_9 : decode cL_save 9 = .ok (.goto 6, 3) := by decide +kernel
theorem dL_save_12 : decode cL_save 12 = .ok (.astore_n 3, 1) := by decide +kernel
theorem dL_save_13 : decode cL_save 13 = .ok (.iconst 1, 1) := by decide +kernel
theorem dL_save_14 : decode cL_save 14 = .ok (.ireturn, 1) := by decide +kernel
theorem dL_save_15 : decode cL_save 15 = .ok (.iconst 0, 1) := by decide +kernel
theorem dL_save_16 : decode cL_save 16 = .ok (.ireturn, 1) := by decide +kernel
theorem dL_restore_0 : decode cL_restore 0 = .ok (.aload_n 2, 1) := by decide +kernel
theorem dL_restore_1 : decode cL_restore 1 = .ok (.iconst 0, 1) := by decide +kernel
theorem dL_restore_2 : decode cL_restore 2 = .ok (.aload_n 0, 1) := by decide +kernel
theorem dL_restore_3 : decode cL_restore 3 = .ok (.iload_n 1, 1) := by decide +kernel
theorem dL_restore_4 : decode cL_restore 4 = .ok (.invokevirtual 87, 3) := by decide +kernel
theorem dL_restore_7 : decode cL_restore 7 = .ok (.i2l, 1) := by decide +kernel
theorem dL_restore_8 : decode cL_restore 8 = .ok (.lastore, 1) := by decide +kernel
theorem dL_restore_9 : decode cL_restore 9 = .ok (.goto 9, 3) := by decide +kernel
theorem dL_restore_12 : decode cL_restore 12 = .ok (.astore_n 3, 1) := by decide +kernel
theorem dL_restore_13 : decode cL_restore 13 = .ok (.iconst 1, 1) := by decide +kernel
theorem dL_restore_14 : decode cL_restore 14 = .ok (.ireturn, 1) := by decide +kernel
theorem dL_restore_15 : decode cL_restore 15 = .ok (.astore_n 3, 1) := by decide +kernel
theorem dL_restore_16 : decode cL_restore 16 = .ok (.iconst 2, 1) := by decide +kernel
theorem dL_restore_17 : decode cL_restore 17 = .ok (.ireturn, 1) := by decide +kernel
theorem dL_restore_18 : decode cL_restore 18 = .ok (.iconst 0, 1) := by decide +kernel
theorem dL_restore_19 : decode cL_restore 19 = .ok (.ireturn, 1) := by decide +kernel
theorem dL_law_0 : decode cL_law 0 = .ok (.new 8, 3) := by decide +kernel
theorem dL_law_3 : decode cL_law 3 = .ok (.dup, 1) := by decide +kernel
theorem dL_law_4 : decode cL_law 4 = .ok (.invokespecial 90, 3) := by decide +kernel
theorem dL_law_7 : decode cL_law 7 = .ok (.astore_n 1, 1) := by decide +kernel
theorem dL_law_8 : decode cL_law 8 = .ok (.new 91, 3) := by decide +kernel
theorem dL_law_11 : decode cL_law 11 = .ok (.dup, 1) := by decide +kernel
theorem dL_law_12 : decode cL_law 12 = .ok (.invokespecial 93, 3) := by decide +kernel
theorem dL_law_15 : decode cL_law 15 = .ok (.astore_n 2, 1) := by decide +kernel
theorem dL_law_16 : decode cL_law 16 = .ok (.iconst 1, 1) := by decide +kernel
theorem dL_law_17 : decode cL_law 17 = .ok (.newarray .long, 2) := by decide +kernel
theorem dL_law_19 : decode cL_law 19 = .ok (.astore_n 3, 1) := by decide +kernel
theorem dL_law_20 : decode cL_law 20 = .ok (.iconst 0, 1) := by decide +kernel
theorem dL_law_21 : decode cL_law 21 = .ok (.istore 4, 2) := by decide +kernel
theorem dL_law_23 : decode cL_law 23 = .ok (.iload 4, 2) := by decide +kernel
theorem dL_law_25 : decode cL_law 25 = .ok (.aload_n 0, 1) := by decide +kernel
theorem dL_law_26 : decode cL_law 26 = .ok (.arraylength, 1) := by decide +kernel
theorem dL_law_27 : decode cL_law 27 = .ok (.iconst 4, 1) := by decide +kernel
theorem dL_law_28 : decode cL_law 28 = .ok (.isub, 1) := by decide +kernel
theorem dL_law_29 : decode cL_law 29 = .ok (.if_icmp .gt 1665, 3) := by decide +kernel
theorem dL_law_32 : decode cL_law 32 = .ok (.aload_n 0, 1) := by decide +kernel
theorem dL_law_33 : decode cL_law 33 = .ok (.iload 4, 2) := by decide +kernel
theorem dL_law_35 : decode cL_law 35 = .ok (.iaload, 1) := by decide +kernel
theorem dL_law_36 : decode cL_law 36 = .ok (.bipush 63, 2) := by decide +kernel
theorem dL_law_38 : decode cL_law 38 = .ok (.iand, 1) := by decide +kernel
theorem dL_law_39 : decode cL_law 39 = .ok (.tableswitch 1649 0 33 #[149, 205, 218, 231, 275, 288, 351, 407, 463, 531, 599, 655, 735, 803, 859, 915, 959, 1003, 1016, 1072, 1128, 1184, 1197, 1241, 1254, 1279, 1354, 1429, 1442, 1455, 1468, 1524, 1537, 1593], 149) := by decide +kernel
theorem dL_law_188 : decode cL_law 188 = .ok (.aload_n 1, 1) := by decide +kernel
theorem dL_law_189 : decode cL_law 189 = .ok (.aload_n 0, 1) := by decide +kernel
theorem dL_law_190 : decode cL_law 190 = .ok (.iload 4, 2) := by decide +kernel
theorem dL_law_192 : decode cL_law 192 = .ok (.iconst 1, 1) := by decide +kernel
theorem dL_law_193 : decode cL_law 193 = .ok (.iadd, 1) := by decide +kernel
theorem dL_law_194 : decode cL_law 194 = .ok (.iaload, 1) := by decide +kernel
theorem dL_law_195 : decode cL_law 195 = .ok (.aload_n 3, 1) := by decide +kernel
theorem dL_law_196 : decode cL_law 196 = .ok (.invokestatic 94, 3) := by decide +kernel
theorem dL_law_199 : decode cL_law 199 = .ok (.istore 5, 2) := by decide +kernel
theorem dL_law_201 : decode cL_law 201 = .ok (.aload_n 2, 1) := by decide +kernel
theorem dL_law_202 : decode cL_law 202 = .ok (.aload_n 0, 1) := by decide +kernel
theorem dL_law_203 : decode cL_law 203 = .ok (.iload 4, 2) := by decide +kernel
theorem dL_law_205 : decode cL_law 205 = .ok (.iconst 1, 1) := by decide +kernel
theorem dL_law_206 : decode cL_law 206 = .ok (.iadd, 1) := by decide +kernel
theorem dL_law_207 : decode cL_law 207 = .ok (.iaload, 1) := by decide +kernel
theorem dL_law_208 : decode cL_law 208 = .ok (.invokevirtual 99, 3) := by decide +kernel
theorem dL_law_211 : decode cL_law 211 = .ok (.istore 6, 2) := by decide +kernel
theorem dL_law_213 : decode cL_law 213 = .ok (.aload_n 2, 1) := by decide +kernel
theorem dL_law_214 : decode cL_law 214 = .ok (.invokevirtual 100, 3) := by decide +kernel
theorem dL_law_217 : decode cL_law 217 = .ok (.iload 5, 2) := by decide +kernel
theorem dL_law_219 : decode cL_law 219 = .ok (.if_icmp .eq 5, 3) := by decide +kernel
theorem dL_law_222 : decode cL_law 222 = .ok (.iconst 0, 1) := by decide +kernel
theorem dL_law_223 : decode cL_law 223 = .ok (.ireturn, 1) := by decide +kernel
theorem dL_law_224 : decode cL_law 224 = .ok (.iload 5, 2) := by decide +kernel
theorem dL_law_226 : decode cL_law 226 = .ok (.ifCond .ne 15, 3) := by decide +kernel
theorem dL_law_229 : decode cL_law 229 = .ok (.aload_n 3, 1) := by decide +kernel
theorem dL_law_230 : decode cL_law 230 = .ok (.iconst 0, 1) := by decide +kernel
theorem dL_law_231 : decode cL_law 231 = .ok (.laload, 1) := by decide +kernel
theorem dL_law_232 : decode cL_law 232 = .ok (.iload 6, 2) := by decide +kernel
theorem dL_law_234 : decode cL_law 234 = .ok (.i2l, 1) := by decide +kernel
theorem dL_law_235 : decode cL_law 235 = .ok (.lcmp, 1) := by decide +kernel
theorem dL_law_236 : decode cL_law 236 = .ok (.ifCond .eq 5, 3) := by decide +kernel
theorem dL_law_239 : decode cL_law 239 = .ok (.iconst 0, 1) := by decide +kernel
theorem dL_law_240 : decode cL_law 240 = .ok (.ireturn, 1) := by decide +kernel
theorem dL_law_241 : decode cL_law 241 = .ok (.goto 1447, 3) := by decide +kernel
theorem dL_law_244 : decode cL_law 244 = .ok (.aload_n 1, 1) := by decide +kernel
theorem dL_law_245 : decode cL_law 245 = .ok (.invokevirtual 103, 3) := by decide +kernel
theorem dL_law_248 : decode cL_law 248 = .ok (.aload_n 2, 1) := by decide +kernel
theorem dL_law_249 : decode cL_law 249 = .ok (.invokevirtual 106, 3) := by decide +kernel
theorem dL_law_252 : decode cL_law 252 = .ok (.if_icmp .eq 1436, 3) := by decide +kernel
theorem dL_law_255 : decode cL_law 255 = .ok (.iconst 0, 1) := by decide +kernel
theorem dL_law_256 : decode cL_law 256 = .ok (.ireturn, 1) := by decide +kernel
theorem dL_law_257 : decode cL_law 257 = .ok (.aload_n 1, 1) := by decide +kernel
theorem dL_law_258 : decode cL_law 258 = .ok (.invokevirtual 107, 3) := by decide +kernel
theorem dL_law_261 : decode cL_law 261 = .ok (.aload_n 2, 1) := by decide +kernel
theorem dL_law_262 : decode cL_law 262 = .ok (.invokevirtual 110, 3) := by decide +kernel
theorem dL_law_265 : decode cL_law 265 = .ok (.if_icmp .eq 1423, 3) := by decide +kernel
theorem dL_law_268 : decode cL_law 268 = .ok (.iconst 0, 1) := by decide +kernel
theorem dL_law_269 : decode cL_law 269 = .ok (.ireturn, 1) := by decide +kernel
theorem dL_law_270 : decode cL_law 270 = .ok (.aload_n 1, 1) := by decide +kernel
theorem dL_law_271 : decode cL_law 271 = .ok (.aload_n 3, 1) := by decide +kernel
theorem dL_law_272 : decode cL_law 272 = .ok (.invokestatic 111, 3) := by decide +kernel
theorem dL_law_275 : decode cL_law 275 = .ok (.istore 5, 2) := by decide +kernel
theorem dL_law_277 : decode cL_law 277 = .ok (.aload_n 2, 1) := by decide +kernel
theorem dL_law_278 : decode cL_law 278 = .ok (.invokevirtual 114, 3) := by decide +kernel
theorem dL_law_281 : decode cL_law 281 = .ok (.istore 6, 2) := by decide +kernel
theorem dL_law_283 : decode cL_law 283 = .ok (.aload_n 2, 1) := by decide +kernel
theorem dL_law_284 : decode cL_law 284 = .ok (.invokevirtual 100, 3) := by decide +kernel
theorem dL_law_287 : decode cL_law 287 = .ok (.iload 5, 2) := by decide +kernel
theorem dL_law_289 : decode cL_law 289 = .ok (.if_icmp .eq 5, 3) := by decide +kernel
theorem dL_law_292 : decode cL_law 292 = .ok (.iconst 0, 1) := by decide +kernel
theorem dL_law_293 : decode cL_law 293 = .ok (.ireturn, 1) := by decide +kernel
theorem dL_law_294 : decode cL_law 294 = .ok (.iload 5, 2) := by decide +kernel
theorem dL_law_296 : decode cL_law 296 = .ok (.ifCond .ne 15, 3) := by decide +kernel
theorem dL_law_299 : decode cL_law 299 = .ok (.aload_n 3, 1) := by decide +kernel
theorem dL_law_300 : decode cL_law 300 = .ok (.iconst 0, 1) := by decide +kernel
theorem dL_law_301 : decode cL_law 301 = .ok (.laload, 1) := by decide +kernel
theorem dL_law_302 : decode cL_law 302 = .ok (.iload 6, 2) := by decide +kernel
theorem dL_law_304 : decode cL_law 304 = .ok (.i2l, 1) := by decide +kernel
theorem dL_law_305 : decode cL_law 305 = .ok (.lcmp, 1) := by decide +kernel
theorem dL_law_306 : decode cL_law 306 = .ok (.ifCond .eq 5, 3) := by decide +kernel
theorem dL_law_309 : decode cL_law 309 = .ok (.iconst 0, 1) := by decide +kernel
theorem dL_law_310 : decode cL_law 310 = .ok (.ireturn, 1) := by decide +kernel
theorem dL_law_311 : decode cL_law 311 = .ok (.goto 1377, 3) := by decide +kernel
theorem dL_law_314 : decode cL_law 314 = .ok (.aload_n 1, 1) := by decide +kernel
theorem dL_law_315 : decode cL_law 315 = .ok (.invokevirtual 115, 3) := by decide +kernel
theorem dL_law_318 : decode cL_law 318 = .ok (.aload_n 2, 1) := by decide +kernel
theorem dL_law_319 : decode cL_law 319 = .ok (.invokevirtual 118, 3) := by decide +kernel
theorem dL_law_322 : decode cL_law 322 = .ok (.if_icmp .eq 1366, 3) := by decide +kernel
theorem dL_law_325 : decode cL_law 325 = .ok (.iconst 0, 1) := by decide +kernel
theorem dL_law_326 : decode cL_law 326 = .ok (.ireturn, 1) := by decide +kernel
theorem dL_law_327 : decode cL_law 327 = .ok (.aload_n 1, 1) := by decide +kernel
theorem dL_law_328 : decode cL_law 328 = .ok (.aload_n 0, 1) := by decide +kernel
theorem dL_law_329 : decode cL_law 329 = .ok (.iload 4, 2) := by decide +kernel
theorem dL_law_331 : decode cL_law 331 = .ok (.iconst 1, 1) := by decide +kernel
theorem dL_law_332 : decode cL_law 332 = .ok (.iadd, 1) := by decide +kernel
theorem dL_law_333 : decode cL_law 333 = .ok (.iaload, 1) := by decide +kernel
theorem dL_law_334 : decode cL_law 334 = .ok (.aload_n 3, 1) := by decide +kernel
theorem dL_law_335 : decode cL_law 335 = .ok (.invokestatic 119, 3) := by decide +kernel
theorem dL_law_338 : decode cL_law 338 = .ok (.istore 5, 2) := by decide +kernel
theorem dL_law_340 : decode cL_law 340 = .ok (.aload_n 2, 1) := by decide +kernel
theorem dL_law_341 : decode cL_law 341 = .ok (.aload_n 0, 1) := by decide +kernel
theorem dL_law_342 : decode cL_law 342 = .ok (.iload 4, 2) := by decide +kernel
theorem dL_law_344 : decode cL_law 344 = .ok (.iconst 1, 1) := by decide +kernel
theorem dL_law_345 : decode cL_law 345 = .ok (.iadd, 1) := by decide +kernel
theorem dL_law_346 : decode cL_law 346 = .ok (.iaload, 1) := by decide +kernel
theorem dL_law_347 : decode cL_law 347 = .ok (.invokevirtual 121, 3) := by decide +kernel
theorem dL_law_350 : decode cL_law 350 = .ok (.istore 6, 2) := by decide +kernel
theorem dL_law_352 : decode cL_law 352 = .ok (.aload_n 2, 1) := by decide +kernel
theorem dL_law_353 : decode cL_law 353 = .ok (.invokevirtual 100, 3) := by decide +kernel
theorem dL_law_356 : decode cL_law 356 = .ok (.iload 5, 2) := by decide +kernel
theorem dL_law_358 : decode cL_law 358 = .ok (.if_icmp .eq 5, 3) := by decide +kernel
theorem dL_law_361 : decode cL_law 361 = .ok (.iconst 0, 1) := by decide +kernel
theorem dL_law_362 : decode cL_law 362 = .ok (.ireturn, 1) := by decide +kernel
theorem dL_law_363 : decode cL_law 363 = .ok (.iload 5, 2) := by decide +kernel
theorem dL_law_365 : decode cL_law 365 = .ok (.ifCond .ne 22, 3) := by decide +kernel
theorem dL_law_368 : decode cL_law 368 = .ok (.aload_n 3, 1) := by decide +kernel
theorem dL_law_369 : decode cL_law 369 = .ok (.iconst 0, 1) := by decide +kernel
theorem dL_law_370 : decode cL_law 370 = .ok (.laload, 1) := by decide +kernel
theorem dL_law_371 : decode cL_law 371 = .ok (.iload 6, 2) := by decide +kernel
theorem dL_law_373 : decode cL_law 373 = .ok (.ifCond .eq 7, 3) := by decide +kernel
theorem dL_law_376 : decode cL_law 376 = .ok (.lconst 1, 1) := by decide +kernel
theorem dL_law_377 : decode cL_law 377 = .ok (.goto 4, 3) := by decide +kernel
theorem dL_law_380 : decode cL_law 380 = .ok (.lconst 0, 1) := by decide +kernel
theorem dL_law_381 : decode cL_law 381 = .ok (.lcmp, 1) := by decide +kernel
theorem dL_law_382 : decode cL_law 382 = .ok (.ifCond .eq 5, 3) := by decide +kernel
theorem dL_law_385 : decode cL_law 385 = .ok (.iconst 0, 1) := by decide +kernel
theorem dL_law_386 : decode cL_law 386 = .ok (.ireturn, 1) := by decide +kernel
theorem dL_law_387 : decode cL_law 387 = .ok (.goto 1301, 3) := by decide +kernel
theorem dL_law_390 : decode cL_law 390 = .ok (.aload_n 1, 1) := by decide +kernel
theorem dL_law_391 : decode cL_law 391 = .ok (.aload_n 0, 1) := by decide +kernel
theorem dL_law_392 : decode cL_law 392 = .ok (.iload 4, 2) := by decide +kernel
theorem dL_law_394 : decode cL_law 394 = .ok (.iconst 1, 1) := by decide +kernel
theorem dL_law_395 : decode cL_law 395 = .ok (.iadd, 1) := by decide +kernel
theorem dL_law_396 : decode cL_law 396 = .ok (.iaload, 1) := by decide +kernel
theorem dL_law_397 : decode cL_law 397 = .ok (.aload_n 3, 1) := by decide +kernel
theorem dL_law_398 : decode cL_law 398 = .ok (.invokestatic 122, 3) := by decide +kernel
theorem dL_law_401 : decode cL_law 401 = .ok (.istore 5, 2) := by decide +kernel
theorem dL_law_403 : decode cL_law 403 = .ok (.aload_n 2, 1) := by decide +kernel
theorem dL_law_404 : decode cL_law 404 = .ok (.aload_n 0, 1) := by decide +kernel
theorem dL_law_405 : decode cL_law 405 = .ok (.iload 4, 2) := by decide +kernel
theorem dL_law_407 : decode cL_law 407 = .ok (.iconst 1, 1) := by decide +kernel
theorem dL_law_408 : decode cL_law 408 = .ok (.iadd, 1) := by decide +kernel
theorem dL_law_409 : decode cL_law 409 = .ok (.iaload, 1) := by decide +kernel
theorem dL_law_410 : decode cL_law 410 = .ok (.invokevirtual 124, 3) := by decide +kernel
theorem dL_law_413 : decode cL_law 413 = .ok (.istore 6, 2) := by decide +kernel
theorem dL_law_415 : decode cL_law 415 = .ok (.aload_n 2, 1) := by decide +kernel
theorem dL_law_416 : decode cL_law 416 = .ok (.invokevirtual 100, 3) := by decide +kernel
theorem dL_law_419 : decode cL_law 419 = .ok (.iload 5, 2) := by decide +kernel
theorem dL_law_421 : decode cL_law 421 = .ok (.if_icmp .eq 5, 3) := by decide +kernel
theorem dL_law_424 : decode cL_law 424 = .ok (.iconst 0, 1) := by decide +kernel
theorem dL_law_425 : decode cL_law 425 = .ok (.ireturn, 1) := by decide +kernel
theorem dL_law_426 : decode cL_law 426 = .ok (.iload 5, 2) := by decide +kernel
theorem dL_law_428 : decode cL_law 428 = .ok (.ifCond .ne 15, 3) := by decide +kernel
theorem dL_law_431 : decode cL_law 431 = .ok (.aload_n 3, 1) := by decide +kernel
theorem dL_law_432 : decode cL_law 432 = .ok (.iconst 0, 1) := by decide +kernel
theorem dL_law_433 : decode cL_law 433 = .ok (.laload, 1) := by decide +kernel
theorem dL_law_434 : decode cL_law 434 = .ok (.iload 6, 2) := by decide +kernel
theorem dL_law_436 : decode cL_law 436 = .ok (.i2l, 1) := by decide +kernel
theorem dL_law_437 : decode cL_law 437 = .ok (.lcmp, 1) := by decide +kernel
theorem dL_law_438 : decode cL_law 438 = .ok (.ifCond .eq 5, 3) := by decide +kernel
theorem dL_law_441 : decode cL_law 441 = .ok (.iconst 0, 1) := by decide +kernel
theorem dL_law_442 : decode cL_law 442 = .ok (.ireturn, 1) := by decide +kernel
theorem dL_law_443 : decode cL_law 443 = .ok (.goto 1245, 3) := by decide +kernel
theorem dL_law_446 : decode cL_law 446 = .ok (.aload_n 1, 1) := by decide +kernel
theorem dL_law_447 : decode cL_law 447 = .ok (.aload_n 0, 1) := by decide +kernel
theorem dL_law_448 : decode cL_law 448 = .ok (.iload 4, 2) := by decide +kernel
theorem dL_law_450 : decode cL_law 450 = .ok (.iconst 1, 1) := by decide +kernel
theorem dL_law_451 : decode cL_law 451 = .ok (.iadd, 1) := by decide +kernel
theorem dL_law_452 : decode cL_law 452 = .ok (.iaload, 1) := by decide +kernel
theorem dL_law_453 : decode cL_law 453 = .ok (.aload_n 3, 1) := by decide +kernel
theorem dL_law_454 : decode cL_law 454 = .ok (.invokestatic 125, 3) := by decide +kernel
theorem dL_law_457 : decode cL_law 457 = .ok (.istore 5, 2) := by decide +kernel
theorem dL_law_459 : decode cL_law 459 = .ok (.aload_n 2, 1) := by decide +kernel
theorem dL_law_460 : decode cL_law 460 = .ok (.aload_n 0, 1) := by decide +kernel
theorem dL_law_461 : decode cL_law 461 = .ok (.iload 4, 2) := by decide +kernel
theorem dL_law_463 : decode cL_law 463 = .ok (.iconst 1, 1) := by decide +kernel
theorem dL_law_464 : decode cL_law 464 = .ok (.iadd, 1) := by decide +kernel
theorem dL_law_465 : decode cL_law 465 = .ok (.iaload, 1) := by decide +kernel
theorem dL_law_466 : decode cL_law 466 = .ok (.invokevirtual 127, 3) := by decide +kernel
theorem dL_law_469 : decode cL_law 469 = .ok (.istore 6, 2) := by decide +kernel
theorem dL_law_471 : decode cL_law 471 = .ok (.aload_n 2, 1) := by decide +kernel
theorem dL_law_472 : decode cL_law 472 = .ok (.invokevirtual 100, 3) := by decide +kernel
theorem dL_law_475 : decode cL_law 475 = .ok (.iload 5, 2) := by decide +kernel
theorem dL_law_477 : decode cL_law 477 = .ok (.if_icmp .eq 5, 3) := by decide +kernel
theorem dL_law_480 : decode cL_law 480 = .ok (.iconst 0, 1) := by decide +kernel
theorem dL_law_481 : decode cL_law 481 = .ok (.ireturn, 1) := by decide +kernel
theorem dL_law_482 : decode cL_law 482 = .ok (.iload 5, 2) := by decide +kernel
theorem dL_law_484 : decode cL_law 484 = .ok (.ifCond .ne 15, 3) := by decide +kernel
theorem dL_law_487 : decode cL_law 487 = .ok (.aload_n 3, 1) := by decide +kernel
theorem dL_law_488 : decode cL_law 488 = .ok (.iconst 0, 1) := by decide +kernel
theorem dL_law_489 : decode cL_law 489 = .ok (.laload, 1) := by decide +kernel
theorem dL_law_490 : decode cL_law 490 = .ok (.iload 6, 2) := by decide +kernel
theorem dL_law_492 : decode cL_law 492 = .ok (.i2l, 1) := by decide +kernel
theorem dL_law_493 : decode cL_law 493 = .ok (.lcmp, 1) := by decide +kernel
theorem dL_law_494 : decode cL_law 494 = .ok (.ifCond .eq 5, 3) := by decide +kernel
theorem dL_law_497 : decode cL_law 497 = .ok (.iconst 0, 1) := by decide +kernel
theorem dL_law_498 : decode cL_law 498 = .ok (.ireturn, 1) := by decide +kernel
theorem dL_law_499 : decode cL_law 499 = .ok (.goto 1189, 3) := by decide +kernel
theorem dL_law_502 : decode cL_law 502 = .ok (.aload_n 1, 1) := by decide +kernel
theorem dL_law_503 : decode cL_law 503 = .ok (.aload_n 0, 1) := by decide +kernel
theorem dL_law_504 : decode cL_law 504 = .ok (.iload 4, 2) := by decide +kernel
theorem dL_law_506 : decode cL_law 506 = .ok (.iconst 1, 1) := by decide +kernel
theorem dL_law_507 : decode cL_law 507 = .ok (.iadd, 1) := by decide +kernel
theorem dL_law_508 : decode cL_law 508 = .ok (.iaload, 1) := by decide +kernel
theorem dL_law_509 : decode cL_law 509 = .ok (.aload_n 0, 1) := by decide +kernel
theorem dL_law_510 : decode cL_law 510 = .ok (.iload 4, 2) := by decide +kernel
theorem dL_law_512 : decode cL_law 512 = .ok (.iconst 2, 1) := by decide +kernel
theorem dL_law_513 : decode cL_law 513 = .ok (.iadd, 1) := by decide +kernel
theorem dL_law_514 : decode cL_law 514 = .ok (.iaload, 1) := by decide +kernel
theorem dL_law_515 : decode cL_law 515 = .ok (.aload_n 3, 1) := by decide +kernel
theorem dL_law_516 : decode cL_law 516 = .ok (.invokestatic 128, 3) := by decide +kernel
theorem dL_law_519 : decode cL_law 519 = .ok (.istore 5, 2) := by decide +kernel
theorem dL_law_521 : decode cL_law 521 = .ok (.aload_n 2, 1) := by decide +kernel
theorem dL_law_522 : decode cL_law 522 = .ok (.aload_n 0, 1) := by decide +kernel
theorem dL_law_523 : decode cL_law 523 = .ok (.iload 4, 2) := by decide +kernel
theorem dL_law_525 : decode cL_law 525 = .ok (.iconst 1, 1) := by decide +kernel
theorem dL_law_526 : decode cL_law 526 = .ok (.iadd, 1) := by decide +kernel
theorem dL_law_527 : decode cL_law 527 = .ok (.iaload, 1) := by decide +kernel
theorem dL_law_528 : decode cL_law 528 = .ok (.aload_n 0, 1) := by decide +kernel
theorem dL_law_529 : decode cL_law 529 = .ok (.iload 4, 2) := by decide +kernel
theorem dL_law_531 : decode cL_law 531 = .ok (.iconst 2, 1) := by decide +kernel
theorem dL_law_532 : decode cL_law 532 = .ok (.iadd, 1) := by decide +kernel
theorem dL_law_533 : decode cL_law 533 = .ok (.iaload, 1) := by decide +kernel
theorem dL_law_534 : decode cL_law 534 = .ok (.invokevirtual 131, 3) := by decide +kernel
theorem dL_law_537 : decode cL_law 537 = .ok (.istore 6, 2) := by decide +kernel
theorem dL_law_539 : decode cL_law 539 = .ok (.aload_n 2, 1) := by decide +kernel
theorem dL_law_540 : decode cL_law 540 = .ok (.invokevirtual 100, 3) := by decide +kernel
theorem dL_law_543 : decode cL_law 543 = .ok (.iload 5, 2) := by decide +kernel
theorem dL_law_545 : decode cL_law 545 = .ok (.if_icmp .eq 5, 3) := by decide +kernel
theorem dL_law_548 : decode cL_law 548 = .ok (.iconst 0, 1) := by decide +kernel
theorem dL_law_549 : decode cL_law 549 = .ok (.ireturn, 1) := by decide +kernel
theorem dL_law_550 : decode cL_law 550 = .ok (.iload 5, 2) := by decide +kernel
theorem dL_law_552 : decode cL_law 552 = .ok (.ifCond .ne 15, 3) := by decide +kernel
theorem dL_law_555 : decode cL_law 555 = .ok (.aload_n 3, 1) := by decide +kernel
theorem dL_law_556 : decode cL_law 556 = .ok (.iconst 0, 1) := by decide +kernel
theorem dL_law_557 : decode cL_law 557 = .ok (.laload, 1) := by decide +kernel
theorem dL_law_558 : decode cL_law 558 = .ok (.iload 6, 2) := by decide +kernel
theorem dL_law_560 : decode cL_law 560 = .ok (.i2l, 1) := by decide +kernel
theorem dL_law_561 : decode cL_law 561 = .ok (.lcmp, 1) := by decide +kernel
theorem dL_law_562 : decode cL_law 562 = .ok (.ifCond .eq 5, 3) := by decide +kernel
theorem dL_law_565 : decode cL_law 565 = .ok (.iconst 0, 1) := by decide +kernel
theorem dL_law_566 : decode cL_law 566 = .ok (.ireturn, 1) := by decide +kernel
theorem dL_law_567 : decode cL_law 567 = .ok (.goto 1121, 3) := by decide +kernel
theorem dL_law_570 : decode cL_law 570 = .ok (.aload_n 1, 1) := by decide +kernel
theorem dL_law_571 : decode cL_law 571 = .ok (.aload_n 0, 1) := by decide +kernel
theorem dL_law_572 : decode cL_law 572 = .ok (.iload 4, 2) := by decide +kernel
theorem dL_law_574 : decode cL_law 574 = .ok (.iconst 1, 1) := by decide +kernel
theorem dL_law_575 : decode cL_law 575 = .ok (.iadd, 1) := by decide +kernel
theorem dL_law_576 : decode cL_law 576 = .ok (.iaload, 1) := by decide +kernel
theorem dL_law_577 : decode cL_law 577 = .ok (.aload_n 0, 1) := by decide +kernel
theorem dL_law_578 : decode cL_law 578 = .ok (.iload 4, 2) := by decide +kernel
theorem dL_law_580 : decode cL_law 580 = .ok (.iconst 2, 1) := by decide +kernel
theorem dL_law_581 : decode cL_law 581 = .ok (.iadd, 1) := by decide +kernel
theorem dL_law_582 : decode cL_law 582 = .ok (.iaload, 1) := by decide +kernel
theorem dL_law_583 : decode cL_law 583 = .ok (.aload_n 3, 1) := by decide +kernel
theorem dL_law_584 : decode cL_law 584 = .ok (.invokestatic 132, 3) := by decide +kernel
theorem dL_law_587 : decode cL_law 587 = .ok (.istore 5, 2) := by decide +kernel
theorem dL_law_589 : decode cL_law 589 = .ok (.aload_n 2, 1) := by decide +kernel
theorem dL_law_590 : decode cL_law 590 = .ok (.aload_n 0, 1) := by decide +kernel
theorem dL_law_591 : decode cL_law 591 = .ok (.iload 4, 2) := by decide +kernel
theorem dL_law_593 : decode cL_law 593 = .ok (.iconst 1, 1) := by decide +kernel
theorem dL_law_594 : decode cL_law 594 = .ok (.iadd, 1) := by decide +kernel
theorem dL_law_595 : decode cL_law 595 = .ok (.iaload, 1) := by decide +kernel
theorem dL_law_596 : decode cL_law 596 = .ok (.aload_n 0, 1) := by decide +kernel
theorem dL_law_597 : decode cL_law 597 = .ok (.iload 4, 2) := by decide +kernel
theorem dL_law_599 : decode cL_law 599 = .ok (.iconst 2, 1) := by decide +kernel
theorem dL_law_600 : decode cL_law 600 = .ok (.iadd, 1) := by decide +kernel
theorem dL_law_601 : decode cL_law 601 = .ok (.iaload, 1) := by decide +kernel
theorem dL_law_602 : decode cL_law 602 = .ok (.invokevirtual 134, 3) := by decide +kernel
theorem dL_law_605 : decode cL_law 605 = .ok (.istore 6, 2) := by decide +kernel
theorem dL_law_607 : decode cL_law 607 = .ok (.aload_n 2, 1) := by decide +kernel
theorem dL_law_608 : decode cL_law 608 = .ok (.invokevirtual 100, 3) := by decide +kernel
theorem dL_law_611 : decode cL_law 611 = .ok (.iload 5, 2) := by decide +kernel
theorem dL_law_613 : decode cL_law 613 = .ok (.if_icmp .eq 5, 3) := by decide +kernel
theorem dL_law_616 : decode cL_law 616 = .ok (.iconst 0, 1) := by decide +kernel
theorem dL_law_617 : decode cL_law 617 = .ok (.ireturn, 1) := by decide +kernel
theorem dL_law_618 : decode cL_law 618 = .ok (.iload 5, 2) := by decide +kernel
theorem dL_law_620 : decode cL_law 620 = .ok (.ifCond .ne 15, 3) := by decide +kernel
theorem dL_law_623 : decode cL_law 623 = .ok (.aload_n 3, 1) := by decide +kernel
theorem dL_law_624 : decode cL_law 624 = .ok (.iconst 0, 1) := by decide +kernel
theorem dL_law_625 : decode cL_law 625 = .ok (.laload, 1) := by decide +kernel
theorem dL_law_626 : decode cL_law 626 = .ok (.iload 6, 2) := by decide +kernel
theorem dL_law_628 : decode cL_law 628 = .ok (.i2l, 1) := by decide +kernel
theorem dL_law_629 : decode cL_law 629 = .ok (.lcmp, 1) := by decide +kernel
theorem dL_law_630 : decode cL_law 630 = .ok (.ifCond .eq 5, 3) := by decide +kernel
theorem dL_law_633 : decode cL_law 633 = .ok (.iconst 0, 1) := by decide +kernel
theorem dL_law_634 : decode cL_law 634 = .ok (.ireturn, 1) := by decide +kernel
theorem dL_law_635 : decode cL_law 635 = .ok (.goto 1053, 3) := by decide +kernel
theorem dL_law_638 : decode cL_law 638 = .ok (.aload_n 1, 1) := by decide +kernel
theorem dL_law_639 : decode cL_law 639 = .ok (.aload_n 0, 1) := by decide +kernel
theorem dL_law_640 : decode cL_law 640 = .ok (.iload 4, 2) := by decide +kernel
theorem dL_law_642 : decode cL_law 642 = .ok (.iconst 1, 1) := by decide +kernel
theorem dL_law_643 : decode cL_law 643 = .ok (.iadd, 1) := by decide +kernel
theorem dL_law_644 : decode cL_law 644 = .ok (.iaload, 1) := by decide +kernel
theorem dL_law_645 : decode cL_law 645 = .ok (.aload_n 3, 1) := by decide +kernel
theorem dL_law_646 : decode cL_law 646 = .ok (.invokestatic 135, 3) := by decide +kernel
theorem dL_law_649 : decode cL_law 649 = .ok (.istore 5, 2) := by decide +kernel
theorem dL_law_651 : decode cL_law 651 = .ok (.aload_n 2, 1) := by decide +kernel
theorem dL_law_652 : decode cL_law 652 = .ok (.aload_n 0, 1) := by decide +kernel
theorem dL_law_653 : decode cL_law 653 = .ok (.iload 4, 2) := by decide +kernel
theorem dL_law_655 : decode cL_law 655 = .ok (.iconst 1, 1) := by decide +kernel
theorem dL_law_656 : decode cL_law 656 = .ok (.iadd, 1) := by decide +kernel
theorem dL_law_657 : decode cL_law 657 = .ok (.iaload, 1) := by decide +kernel
theorem dL_law_658 : decode cL_law 658 = .ok (.invokevirtual 137, 3) := by decide +kernel
theorem dL_law_661 : decode cL_law 661 = .ok (.istore 6, 2) := by decide +kernel
theorem dL_law_663 : decode cL_law 663 = .ok (.aload_n 2, 1) := by decide +kernel
theorem dL_law_664 : decode cL_law 664 = .ok (.invokevirtual 100, 3) := by decide +kernel
theorem dL_law_667 : decode cL_law 667 = .ok (.iload 5, 2) := by decide +kernel
theorem dL_law_669 : decode cL_law 669 = .ok (.if_icmp .eq 5, 3) := by decide +kernel
theorem dL_law_672 : decode cL_law 672 = .ok (.iconst 0, 1) := by decide +kernel
theorem dL_law_673 : decode cL_law 673 = .ok (.ireturn, 1) := by decide +kernel
theorem dL_law_674 : decode cL_law 674 = .ok (.iload 5, 2) := by decide +kernel
theorem dL_law_676 : decode cL_law 676 = .ok (.ifCond .ne 15, 3) := by decide +kernel
theorem dL_law_679 : decode cL_law 679 = .ok (.aload_n 3, 1) := by decide +kernel
theorem dL_law_680 : decode cL_law 680 = .ok (.iconst 0, 1) := by decide +kernel
theorem dL_law_681 : decode cL_law 681 = .ok (.laload, 1) := by decide +kernel
theorem dL_law_682 : decode cL_law 682 = .ok (.iload 6, 2) := by decide +kernel
theorem dL_law_684 : decode cL_law 684 = .ok (.i2l, 1) := by decide +kernel
theorem dL_law_685 : decode cL_law 685 = .ok (.lcmp, 1) := by decide +kernel
theorem dL_law_686 : decode cL_law 686 = .ok (.ifCond .eq 5, 3) := by decide +kernel
theorem dL_law_689 : decode cL_law 689 = .ok (.iconst 0, 1) := by decide +kernel
theorem dL_law_690 : decode cL_law 690 = .ok (.ireturn, 1) := by decide +kernel
theorem dL_law_691 : decode cL_law 691 = .ok (.goto 997, 3) := by decide +kernel
theorem dL_law_694 : decode cL_law 694 = .ok (.aload_n 1, 1) := by decide +kernel
theorem dL_law_695 : decode cL_law 695 = .ok (.aload_n 0, 1) := by decide +kernel
theorem dL_law_696 : decode cL_law 696 = .ok (.iload 4, 2) := by decide +kernel
theorem dL_law_698 : decode cL_law 698 = .ok (.iconst 1, 1) := by decide +kernel
theorem dL_law_699 : decode cL_law 699 = .ok (.iadd, 1) := by decide +kernel
theorem dL_law_700 : decode cL_law 700 = .ok (.iaload, 1) := by decide +kernel
theorem dL_law_701 : decode cL_law 701 = .ok (.aload_n 0, 1) := by decide +kernel
theorem dL_law_702 : decode cL_law 702 = .ok (.iload 4, 2) := by decide +kernel
theorem dL_law_704 : decode cL_law 704 = .ok (.iconst 2, 1) := by decide +kernel
theorem dL_law_705 : decode cL_law 705 = .ok (.iadd, 1) := by decide +kernel
theorem dL_law_706 : decode cL_law 706 = .ok (.iaload, 1) := by decide +kernel
theorem dL_law_707 : decode cL_law 707 = .ok (.aload_n 0, 1) := by decide +kernel
theorem dL_law_708 : decode cL_law 708 = .ok (.iload 4, 2) := by decide +kernel
theorem dL_law_710 : decode cL_law 710 = .ok (.iconst 3, 1) := by decide +kernel
theorem dL_law_711 : decode cL_law 711 = .ok (.iadd, 1) := by decide +kernel
theorem dL_law_712 : decode cL_law 712 = .ok (.iaload, 1) := by decide +kernel
theorem dL_law_713 : decode cL_law 713 = .ok (.aload_n 3, 1) := by decide +kernel
theorem dL_law_714 : decode cL_law 714 = .ok (.invokestatic 138, 3) := by decide +kernel
theorem dL_law_717 : decode cL_law 717 = .ok (.istore 5, 2) := by decide +kernel
theorem dL_law_719 : decode cL_law 719 = .ok (.aload_n 2, 1) := by decide +kernel
theorem dL_law_720 : decode cL_law 720 = .ok (.aload_n 0, 1) := by decide +kernel
theorem dL_law_721 : decode cL_law 721 = .ok (.iload 4, 2) := by decide +kernel
theorem dL_law_723 : decode cL_law 723 = .ok (.iconst 1, 1) := by decide +kernel
theorem dL_law_724 : decode cL_law 724 = .ok (.iadd, 1) := by decide +kernel
theorem dL_law_725 : decode cL_law 725 = .ok (.iaload, 1) := by decide +kernel
theorem dL_law_726 : decode cL_law 726 = .ok (.aload_n 0, 1) := by decide +kernel
theorem dL_law_727 : decode cL_law 727 = .ok (.iload 4, 2) := by decide +kernel
theorem dL_law_729 : decode cL_law 729 = .ok (.iconst 2, 1) := by decide +kernel
theorem dL_law_730 : decode cL_law 730 = .ok (.iadd, 1) := by decide +kernel
theorem dL_law_731 : decode cL_law 731 = .ok (.iaload, 1) := by decide +kernel
theorem dL_law_732 : decode cL_law 732 = .ok (.aload_n 0, 1) := by decide +kernel
theorem dL_law_733 : decode cL_law 733 = .ok (.iload 4, 2) := by decide +kernel
theorem dL_law_735 : decode cL_law 735 = .ok (.iconst 3, 1) := by decide +kernel
theorem dL_law_736 : decode cL_law 736 = .ok (.iadd, 1) := by decide +kernel
theorem dL_law_737 : decode cL_law 737 = .ok (.iaload, 1) := by decide +kernel
theorem dL_law_738 : decode cL_law 738 = .ok (.invokevirtual 141, 3) := by decide +kernel
theorem dL_law_741 : decode cL_law 741 = .ok (.istore 6, 2) := by decide +kernel
theorem dL_law_743 : decode cL_law 743 = .ok (.aload_n 2, 1) := by decide +kernel
theorem dL_law_744 : decode cL_law 744 = .ok (.invokevirtual 100, 3) := by decide +kernel
theorem dL_law_747 : decode cL_law 747 = .ok (.iload 5, 2) := by decide +kernel
theorem dL_law_749 : decode cL_law 749 = .ok (.if_icmp .eq 5, 3) := by decide +kernel
theorem dL_law_752 : decode cL_law 752 = .ok (.iconst 0, 1) := by decide +kernel
theorem dL_law_753 : decode cL_law 753 = .ok (.ireturn, 1) := by decide +kernel
theorem dL_law_754 : decode cL_law 754 = .ok (.iload 5, 2) := by decide +kernel
theorem dL_law_756 : decode cL_law 756 = .ok (.ifCond .ne 15, 3) := by decide +kernel
theorem dL_law_759 : decode cL_law 759 = .ok (.aload_n 3, 1) := by decide +kernel
theorem dL_law_760 : decode cL_law 760 = .ok (.iconst 0, 1) := by decide +kernel
theorem dL_law_761 : decode cL_law 761 = .ok (.laload, 1) := by decide +kernel
theorem dL_law_762 : decode cL_law 762 = .ok (.iload 6, 2) := by decide +kernel
theorem dL_law_764 : decode cL_law 764 = .ok (.i2l, 1) := by decide +kernel
theorem dL_law_765 : decode cL_law 765 = .ok (.lcmp, 1) := by decide +kernel
theorem dL_law_766 : decode cL_law 766 = .ok (.ifCond .eq 5, 3) := by decide +kernel
theorem dL_law_769 : decode cL_law 769 = .ok (.iconst 0, 1) := by decide +kernel
theorem dL_law_770 : decode cL_law 770 = .ok (.ireturn, 1) := by decide +kernel
theorem dL_law_771 : decode cL_law 771 = .ok (.goto 917, 3) := by decide +kernel
theorem dL_law_774 : decode cL_law 774 = .ok (.aload_n 1, 1) := by decide +kernel
theorem dL_law_775 : decode cL_law 775 = .ok (.aload_n 0, 1) := by decide +kernel
theorem dL_law_776 : decode cL_law 776 = .ok (.iload 4, 2) := by decide +kernel
theorem dL_law_778 : decode cL_law 778 = .ok (.iconst 1, 1) := by decide +kernel
theorem dL_law_779 : decode cL_law 779 = .ok (.iadd, 1) := by decide +kernel
theorem dL_law_780 : decode cL_law 780 = .ok (.iaload, 1) := by decide +kernel
theorem dL_law_781 : decode cL_law 781 = .ok (.aload_n 0, 1) := by decide +kernel
theorem dL_law_782 : decode cL_law 782 = .ok (.iload 4, 2) := by decide +kernel
theorem dL_law_784 : decode cL_law 784 = .ok (.iconst 2, 1) := by decide +kernel
theorem dL_law_785 : decode cL_law 785 = .ok (.iadd, 1) := by decide +kernel
theorem dL_law_786 : decode cL_law 786 = .ok (.iaload, 1) := by decide +kernel
theorem dL_law_787 : decode cL_law 787 = .ok (.aload_n 3, 1) := by decide +kernel
theorem dL_law_788 : decode cL_law 788 = .ok (.invokestatic 142, 3) := by decide +kernel
theorem dL_law_791 : decode cL_law 791 = .ok (.istore 5, 2) := by decide +kernel
theorem dL_law_793 : decode cL_law 793 = .ok (.aload_n 2, 1) := by decide +kernel
theorem dL_law_794 : decode cL_law 794 = .ok (.aload_n 0, 1) := by decide +kernel
theorem dL_law_795 : decode cL_law 795 = .ok (.iload 4, 2) := by decide +kernel
theorem dL_law_797 : decode cL_law 797 = .ok (.iconst 1, 1) := by decide +kernel
theorem dL_law_798 : decode cL_law 798 = .ok (.iadd, 1) := by decide +kernel
theorem dL_law_799 : decode cL_law 799 = .ok (.iaload, 1) := by decide +kernel
theorem dL_law_800 : decode cL_law 800 = .ok (.aload_n 0, 1) := by decide +kernel
theorem dL_law_801 : decode cL_law 801 = .ok (.iload 4, 2) := by decide +kernel
theorem dL_law_803 : decode cL_law 803 = .ok (.iconst 2, 1) := by decide +kernel
theorem dL_law_804 : decode cL_law 804 = .ok (.iadd, 1) := by decide +kernel
theorem dL_law_805 : decode cL_law 805 = .ok (.iaload, 1) := by decide +kernel
theorem dL_law_806 : decode cL_law 806 = .ok (.invokevirtual 144, 3) := by decide +kernel
theorem dL_law_809 : decode cL_law 809 = .ok (.istore 6, 2) := by decide +kernel
theorem dL_law_811 : decode cL_law 811 = .ok (.aload_n 2, 1) := by decide +kernel
theorem dL_law_812 : decode cL_law 812 = .ok (.invokevirtual 100, 3) := by decide +kernel
theorem dL_law_815 : decode cL_law 815 = .ok (.iload 5, 2) := by decide +kernel
theorem dL_law_817 : decode cL_law 817 = .ok (.if_icmp .eq 5, 3) := by decide +kernel
theorem dL_law_820 : decode cL_law 820 = .ok (.iconst 0, 1) := by decide +kernel
theorem dL_law_821 : decode cL_law 821 = .ok (.ireturn, 1) := by decide +kernel
theorem dL_law_822 : decode cL_law 822 = .ok (.iload 5, 2) := by decide +kernel
theorem dL_law_824 : decode cL_law 824 = .ok (.ifCond .ne 15, 3) := by decide +kernel
theorem dL_law_827 : decode cL_law 827 = .ok (.aload_n 3, 1) := by decide +kernel
theorem dL_law_828 : decode cL_law 828 = .ok (.iconst 0, 1) := by decide +kernel
theorem dL_law_829 : decode cL_law 829 = .ok (.laload, 1) := by decide +kernel
theorem dL_law_830 : decode cL_law 830 = .ok (.iload 6, 2) := by decide +kernel
theorem dL_law_832 : decode cL_law 832 = .ok (.i2l, 1) := by decide +kernel
theorem dL_law_833 : decode cL_law 833 = .ok (.lcmp, 1) := by decide +kernel
theorem dL_law_834 : decode cL_law 834 = .ok (.ifCond .eq 5, 3) := by decide +kernel
theorem dL_law_837 : decode cL_law 837 = .ok (.iconst 0, 1) := by decide +kernel
theorem dL_law_838 : decode cL_law 838 = .ok (.ireturn, 1) := by decide +kernel
theorem dL_law_839 : decode cL_law 839 = .ok (.goto 849, 3) := by decide +kernel
theorem dL_law_842 : decode cL_law 842 = .ok (.aload_n 1, 1) := by decide +kernel
theorem dL_law_843 : decode cL_law 843 = .ok (.aload_n 0, 1) := by decide +kernel
theorem dL_law_844 : decode cL_law 844 = .ok (.iload 4, 2) := by decide +kernel
theorem dL_law_846 : decode cL_law 846 = .ok (.iconst 1, 1) := by decide +kernel
theorem dL_law_847 : decode cL_law 847 = .ok (.iadd, 1) := by decide +kernel
theorem dL_law_848 : decode cL_law 848 = .ok (.iaload, 1) := by decide +kernel
theorem dL_law_849 : decode cL_law 849 = .ok (.aload_n 3, 1) := by decide +kernel
theorem dL_law_850 : decode cL_law 850 = .ok (.invokestatic 145, 3) := by decide +kernel
theorem dL_law_853 : decode cL_law 853 = .ok (.istore 5, 2) := by decide +kernel
theorem dL_law_855 : decode cL_law 855 = .ok (.aload_n 2, 1) := by decide +kernel
theorem dL_law_856 : decode cL_law 856 = .ok (.aload_n 0, 1) := by decide +kernel
theorem dL_law_857 : decode cL_law 857 = .ok (.iload 4, 2) := by decide +kernel
theorem dL_law_859 : decode cL_law 859 = .ok (.iconst 1, 1) := by decide +kernel
theorem dL_law_860 : decode cL_law 860 = .ok (.iadd, 1) := by decide +kernel
theorem dL_law_861 : decode cL_law 861 = .ok (.iaload, 1) := by decide +kernel
theorem dL_law_862 : decode cL_law 862 = .ok (.invokevirtual 147, 3) := by decide +kernel
theorem dL_law_865 : decode cL_law 865 = .ok (.istore 6, 2) := by decide +kernel
theorem dL_law_867 : decode cL_law 867 = .ok (.aload_n 2, 1) := by decide +kernel
theorem dL_law_868 : decode cL_law 868 = .ok (.invokevirtual 100, 3) := by decide +kernel
theorem dL_law_871 : decode cL_law 871 = .ok (.iload 5, 2) := by decide +kernel
theorem dL_law_873 : decode cL_law 873 = .ok (.if_icmp .eq 5, 3) := by decide +kernel
theorem dL_law_876 : decode cL_law 876 = .ok (.iconst 0, 1) := by decide +kernel
theorem dL_law_877 : decode cL_law 877 = .ok (.ireturn, 1) := by decide +kernel
theorem dL_law_878 : decode cL_law 878 = .ok (.iload 5, 2) := by decide +kernel
theorem dL_law_880 : decode cL_law 880 = .ok (.ifCond .ne 15, 3) := by decide +kernel
theorem dL_law_883 : decode cL_law 883 = .ok (.aload_n 3, 1) := by decide +kernel
theorem dL_law_884 : decode cL_law 884 = .ok (.iconst 0, 1) := by decide +kernel
theorem dL_law_885 : decode cL_law 885 = .ok (.laload, 1) := by decide +kernel
theorem dL_law_886 : decode cL_law 886 = .ok (.iload 6, 2) := by decide +kernel
theorem dL_law_888 : decode cL_law 888 = .ok (.i2l, 1) := by decide +kernel
theorem dL_law_889 : decode cL_law 889 = .ok (.lcmp, 1) := by decide +kernel
theorem dL_law_890 : decode cL_law 890 = .ok (.ifCond .eq 5, 3) := by decide +kernel
theorem dL_law_893 : decode cL_law 893 = .ok (.iconst 0, 1) := by decide +kernel
theorem dL_law_894 : decode cL_law 894 = .ok (.ireturn, 1) := by decide +kernel
theorem dL_law_895 : decode cL_law 895 = .ok (.goto 793, 3) := by decide +kernel
theorem dL_law_898 : decode cL_law 898 = .ok (.aload_n 1, 1) := by decide +kernel
theorem dL_law_899 : decode cL_law 899 = .ok (.aload_n 0, 1) := by decide +kernel
theorem dL_law_900 : decode cL_law 900 = .ok (.iload 4, 2) := by decide +kernel
theorem dL_law_902 : decode cL_law 902 = .ok (.iconst 1, 1) := by decide +kernel
theorem dL_law_903 : decode cL_law 903 = .ok (.iadd, 1) := by decide +kernel
theorem dL_law_904 : decode cL_law 904 = .ok (.iaload, 1) := by decide +kernel
theorem dL_law_905 : decode cL_law 905 = .ok (.aload_n 3, 1) := by decide +kernel
theorem dL_law_906 : decode cL_law 906 = .ok (.invokestatic 148, 3) := by decide +kernel
theorem dL_law_909 : decode cL_law 909 = .ok (.istore 5, 2) := by decide +kernel
theorem dL_law_911 : decode cL_law 911 = .ok (.aload_n 2, 1) := by decide +kernel
theorem dL_law_912 : decode cL_law 912 = .ok (.aload_n 0, 1) := by decide +kernel
theorem dL_law_913 : decode cL_law 913 = .ok (.iload 4, 2) := by decide +kernel
theorem dL_law_915 : decode cL_law 915 = .ok (.iconst 1, 1) := by decide +kernel
theorem dL_law_916 : decode cL_law 916 = .ok (.iadd, 1) := by decide +kernel
theorem dL_law_917 : decode cL_law 917 = .ok (.iaload, 1) := by decide +kernel
theorem dL_law_918 : decode cL_law 918 = .ok (.invokevirtual 150, 3) := by decide +kernel
theorem dL_law_921 : decode cL_law 921 = .ok (.istore 6, 2) := by decide +kernel
theorem dL_law_923 : decode cL_law 923 = .ok (.aload_n 2, 1) := by decide +kernel
theorem dL_law_924 : decode cL_law 924 = .ok (.invokevirtual 100, 3) := by decide +kernel
theorem dL_law_927 : decode cL_law 927 = .ok (.iload 5, 2) := by decide +kernel
theorem dL_law_929 : decode cL_law 929 = .ok (.if_icmp .eq 5, 3) := by decide +kernel
theorem dL_law_932 : decode cL_law 932 = .ok (.iconst 0, 1) := by decide +kernel
theorem dL_law_933 : decode cL_law 933 = .ok (.ireturn, 1) := by decide +kernel
theorem dL_law_934 : decode cL_law 934 = .ok (.iload 5, 2) := by decide +kernel
theorem dL_law_936 : decode cL_law 936 = .ok (.ifCond .ne 15, 3) := by decide +kernel
theorem dL_law_939 : decode cL_law 939 = .ok (.aload_n 3, 1) := by decide +kernel
theorem dL_law_940 : decode cL_law 940 = .ok (.iconst 0, 1) := by decide +kernel
theorem dL_law_941 : decode cL_law 941 = .ok (.laload, 1) := by decide +kernel
theorem dL_law_942 : decode cL_law 942 = .ok (.iload 6, 2) := by decide +kernel
theorem dL_law_944 : decode cL_law 944 = .ok (.i2l, 1) := by decide +kernel
theorem dL_law_945 : decode cL_law 945 = .ok (.lcmp, 1) := by decide +kernel
theorem dL_law_946 : decode cL_law 946 = .ok (.ifCond .eq 5, 3) := by decide +kernel
theorem dL_law_949 : decode cL_law 949 = .ok (.iconst 0, 1) := by decide +kernel
theorem dL_law_950 : decode cL_law 950 = .ok (.ireturn, 1) := by decide +kernel
theorem dL_law_951 : decode cL_law 951 = .ok (.goto 737, 3) := by decide +kernel
theorem dL_law_954 : decode cL_law 954 = .ok (.aload_n 1, 1) := by decide +kernel
theorem dL_law_955 : decode cL_law 955 = .ok (.aload_n 3, 1) := by decide +kernel
theorem dL_law_956 : decode cL_law 956 = .ok (.invokestatic 151, 3) := by decide +kernel
theorem dL_law_959 : decode cL_law 959 = .ok (.istore 5, 2) := by decide +kernel
theorem dL_law_961 : decode cL_law 961 = .ok (.aload_n 2, 1) := by decide +kernel
theorem dL_law_962 : decode cL_law 962 = .ok (.invokevirtual 153, 3) := by decide +kernel
theorem dL_law_965 : decode cL_law 965 = .ok (.istore 6, 2) := by decide +kernel
theorem dL_law_967 : decode cL_law 967 = .ok (.aload_n 2, 1) := by decide +kernel
theorem dL_law_968 : decode cL_law 968 = .ok (.invokevirtual 100, 3) := by decide +kernel
theorem dL_law_971 : decode cL_law 971 = .ok (.iload 5, 2) := by decide +kernel
theorem dL_law_973 : decode cL_law 973 = .ok (.if_icmp .eq 5, 3) := by decide +kernel
theorem dL_law_976 : decode cL_law 976 = .ok (.iconst 0, 1) := by decide +kernel
theorem dL_law_977 : decode cL_law 977 = .ok (.ireturn, 1) := by decide +kernel
theorem dL_law_978 : decode cL_law 978 = .ok (.iload 5, 2) := by decide +kernel
theorem dL_law_980 : decode cL_law 980 = .ok (.ifCond .ne 15, 3) := by decide +kernel
theorem dL_law_983 : decode cL_law 983 = .ok (.aload_n 3, 1) := by decide +kernel
theorem dL_law_984 : decode cL_law 984 = .ok (.iconst 0, 1) := by decide +kernel
theorem dL_law_985 : decode cL_law 985 = .ok (.laload, 1) := by decide +kernel
theorem dL_law_986 : decode cL_law 986 = .ok (.iload 6, 2) := by decide +kernel
theorem dL_law_988 : decode cL_law 988 = .ok (.i2l, 1) := by decide +kernel
theorem dL_law_989 : decode cL_law 989 = .ok (.lcmp, 1) := by decide +kernel
theorem dL_law_990 : decode cL_law 990 = .ok (.ifCond .eq 5, 3) := by decide +kernel
theorem dL_law_993 : decode cL_law 993 = .ok (.iconst 0, 1) := by decide +kernel
theorem dL_law_994 : decode cL_law 994 = .ok (.ireturn, 1) := by decide +kernel
theorem dL_law_995 : decode cL_law 995 = .ok (.goto 693, 3) := by decide +kernel
theorem dL_law_998 : decode cL_law 998 = .ok (.aload_n 1, 1) := by decide +kernel
theorem dL_law_999 : decode cL_law 999 = .ok (.aload_n 3, 1) := by decide +kernel
theorem dL_law_1000 : decode cL_law 1000 = .ok (.invokestatic 154, 3) := by decide +kernel
theorem dL_law_1003 : decode cL_law 1003 = .ok (.istore 5, 2) := by decide +kernel
theorem dL_law_1005 : decode cL_law 1005 = .ok (.aload_n 2, 1) := by decide +kernel
theorem dL_law_1006 : decode cL_law 1006 = .ok (.invokevirtual 156, 3) := by decide +kernel
theorem dL_law_1009 : decode cL_law 1009 = .ok (.istore 6, 2) := by decide +kernel
theorem dL_law_1011 : decode cL_law 1011 = .ok (.aload_n 2, 1) := by decide +kernel
theorem dL_law_1012 : decode cL_law 1012 = .ok (.invokevirtual 100, 3) := by decide +kernel
theorem dL_law_1015 : decode cL_law 1015 = .ok (.iload 5, 2) := by decide +kernel
theorem dL_law_1017 : decode cL_law 1017 = .ok (.if_icmp .eq 5, 3) := by decide +kernel
theorem dL_law_1020 : decode cL_law 1020 = .ok (.iconst 0, 1) := by decide +kernel
theorem dL_law_1021 : decode cL_law 1021 = .ok (.ireturn, 1) := by decide +kernel
theorem dL_law_1022 : decode cL_law 1022 = .ok (.iload 5, 2) := by decide +kernel
theorem dL_law_1024 : decode cL_law 1024 = .ok (.ifCond .ne 15, 3) := by decide +kernel
theorem dL_law_1027 : decode cL_law 1027 = .ok (.aload_n 3, 1) := by decide +kernel
theorem dL_law_1028 : decode cL_law 1028 = .ok (.iconst 0, 1) := by decide +kernel
theorem dL_law_1029 : decode cL_law 1029 = .ok (.laload, 1) := by decide +kernel
theorem dL_law_1030 : decode cL_law 1030 = .ok (.iload 6, 2) := by decide +kernel
theorem dL_law_1032 : decode cL_law 1032 = .ok (.i2l, 1) := by decide +kernel
theorem dL_law_1033 : decode cL_law 1033 = .ok (.lcmp, 1) := by decide +kernel
theorem dL_law_1034 : decode cL_law 1034 = .ok (.ifCond .eq 5, 3) := by decide +kernel
theorem dL_law_1037 : decode cL_law 1037 = .ok (.iconst 0, 1) := by decide +kernel
theorem dL_law_1038 : decode cL_law 1038 = .ok (.ireturn, 1) := by decide +kernel
theorem dL_law_1039 : decode cL_law 1039 = .ok (.goto 649, 3) := by decide +kernel
theorem dL_law_1042 : decode cL_law 1042 = .ok (.aload_n 1, 1) := by decide +kernel
theorem dL_law_1043 : decode cL_law 1043 = .ok (.invokevirtual 157, 3) := by decide +kernel
theorem dL_law_1046 : decode cL_law 1046 = .ok (.aload_n 2, 1) := by decide +kernel
theorem dL_law_1047 : decode cL_law 1047 = .ok (.invokevirtual 160, 3) := by decide +kernel
theorem dL_law_1050 : decode cL_law 1050 = .ok (.if_icmp .eq 638, 3) := by decide +kernel
theorem dL_law_1053 : decode cL_law 1053 = .ok (.iconst 0, 1) := by decide +kernel
theorem dL_law_1054 : decode cL_law 1054 = .ok (.ireturn, 1) := by decide +kernel
theorem dL_law_1055 : decode cL_law 1055 = .ok (.aload_n 1, 1) := by decide +kernel
theorem dL_law_1056 : decode cL_law 1056 = .ok (.aload_n 0, 1) := by decide +kernel
theorem dL_law_1057 : decode cL_law 1057 = .ok (.iload 4, 2) := by decide +kernel
theorem dL_law_1059 : decode cL_law 1059 = .ok (.iconst 1, 1) := by decide +kernel
theorem dL_law_1060 : decode cL_law 1060 = .ok (.iadd, 1) := by decide +kernel
theorem dL_law_1061 : decode cL_law 1061 = .ok (.iaload, 1) := by decide +kernel
theorem dL_law_1062 : decode cL_law 1062 = .ok (.aload_n 3, 1) := by decide +kernel
theorem dL_law_1063 : decode cL_law 1063 = .ok (.invokestatic 161, 3) := by decide +kernel
theorem dL_law_1066 : decode cL_law 1066 = .ok (.istore 5, 2) := by decide +kernel
theorem dL_law_1068 : decode cL_law 1068 = .ok (.aload_n 2, 1) := by decide +kernel
theorem dL_law_1069 : decode cL_law 1069 = .ok (.aload_n 0, 1) := by decide +kernel
theorem dL_law_1070 : decode cL_law 1070 = .ok (.iload 4, 2) := by decide +kernel
theorem dL_law_1072 : decode cL_law 1072 = .ok (.iconst 1, 1) := by decide +kernel
theorem dL_law_1073 : decode cL_law 1073 = .ok (.iadd, 1) := by decide +kernel
theorem dL_law_1074 : decode cL_law 1074 = .ok (.iaload, 1) := by decide +kernel
theorem dL_law_1075 : decode cL_law 1075 = .ok (.invokevirtual 163, 3) := by decide +kernel
theorem dL_law_1078 : decode cL_law 1078 = .ok (.istore 6, 2) := by decide +kernel
theorem dL_law_1080 : decode cL_law 1080 = .ok (.aload_n 2, 1) := by decide +kernel
theorem dL_law_1081 : decode cL_law 1081 = .ok (.invokevirtual 100, 3) := by decide +kernel
theorem dL_law_1084 : decode cL_law 1084 = .ok (.iload 5, 2) := by decide +kernel
theorem dL_law_1086 : decode cL_law 1086 = .ok (.if_icmp .eq 5, 3) := by decide +kernel
theorem dL_law_1089 : decode cL_law 1089 = .ok (.iconst 0, 1) := by decide +kernel
theorem dL_law_1090 : decode cL_law 1090 = .ok (.ireturn, 1) := by decide +kernel
theorem dL_law_1091 : decode cL_law 1091 = .ok (.iload 5, 2) := by decide +kernel
theorem dL_law_1093 : decode cL_law 1093 = .ok (.ifCond .ne 15, 3) := by decide +kernel
theorem dL_law_1096 : decode cL_law 1096 = .ok (.aload_n 3, 1) := by decide +kernel
theorem dL_law_1097 : decode cL_law 1097 = .ok (.iconst 0, 1) := by decide +kernel
theorem dL_law_1098 : decode cL_law 1098 = .ok (.laload, 1) := by decide +kernel
theorem dL_law_1099 : decode cL_law 1099 = .ok (.iload 6, 2) := by decide +kernel
theorem dL_law_1101 : decode cL_law 1101 = .ok (.i2l, 1) := by decide +kernel
theorem dL_law_1102 : decode cL_law 1102 = .ok (.lcmp, 1) := by decide +kernel
theorem dL_law_1103 : decode cL_law 1103 = .ok (.ifCond .eq 5, 3) := by decide +kernel
theorem dL_law_1106 : decode cL_law 1106 = .ok (.iconst 0, 1) := by decide +kernel
theorem dL_law_1107 : decode cL_law 1107 = .ok (.ireturn, 1) := by decide +kernel
theorem dL_law_1108 : decode cL_law 1108 = .ok (.goto 580, 3) := by decide +kernel
theorem dL_law_1111 : decode cL_law 1111 = .ok (.aload_n 1, 1) := by decide +kernel
theorem dL_law_1112 : decode cL_law 1112 = .ok (.aload_n 0, 1) := by decide +kernel
theorem dL_law_1113 : decode cL_law 1113 = .ok (.iload 4, 2) := by decide +kernel
theorem dL_law_1115 : decode cL_law 1115 = .ok (.iconst 1, 1) := by decide +kernel
theorem dL_law_1116 : decode cL_law 1116 = .ok (.iadd, 1) := by decide +kernel
theorem dL_law_1117 : decode cL_law 1117 = .ok (.iaload, 1) := by decide +kernel
theorem dL_law_1118 : decode cL_law 1118 = .ok (.aload_n 3, 1) := by decide +kernel
theorem dL_law_1119 : decode cL_law 1119 = .ok (.invokestatic 164, 3) := by decide +kernel
theorem dL_law_1122 : decode cL_law 1122 = .ok (.istore 5, 2) := by decide +kernel
theorem dL_law_1124 : decode cL_law 1124 = .ok (.aload_n 2, 1) := by decide +kernel
theorem dL_law_1125 : decode cL_law 1125 = .ok (.aload_n 0, 1) := by decide +kernel
theorem dL_law_1126 : decode cL_law 1126 = .ok (.iload 4, 2) := by decide +kernel
theorem dL_law_1128 : decode cL_law 1128 = .ok (.iconst 1, 1) := by decide +kernel
theorem dL_law_1129 : decode cL_law 1129 = .ok (.iadd, 1) := by decide +kernel
theorem dL_law_1130 : decode cL_law 1130 = .ok (.iaload, 1) := by decide +kernel
theorem dL_law_1131 : decode cL_law 1131 = .ok (.invokevirtual 166, 3) := by decide +kernel
theorem dL_law_1134 : decode cL_law 1134 = .ok (.istore 6, 2) := by decide +kernel
theorem dL_law_1136 : decode cL_law 1136 = .ok (.aload_n 2, 1) := by decide +kernel
theorem dL_law_1137 : decode cL_law 1137 = .ok (.invokevirtual 100, 3) := by decide +kernel
theorem dL_law_1140 : decode cL_law 1140 = .ok (.iload 5, 2) := by decide +kernel
theorem dL_law_1142 : decode cL_law 1142 = .ok (.if_icmp .eq 5, 3) := by decide +kernel
theorem dL_law_1145 : decode cL_law 1145 = .ok (.iconst 0, 1) := by decide +kernel
theorem dL_law_1146 : decode cL_law 1146 = .ok (.ireturn, 1) := by decide +kernel
theorem dL_law_1147 : decode cL_law 1147 = .ok (.iload 5, 2) := by decide +kernel
theorem dL_law_1149 : decode cL_law 1149 = .ok (.ifCond .ne 15, 3) := by decide +kernel
theorem dL_law_1152 : decode cL_law 1152 = .ok (.aload_n 3, 1) := by decide +kernel
theorem dL_law_1153 : decode cL_law 1153 = .ok (.iconst 0, 1) := by decide +kernel
theorem dL_law_1154 : decode cL_law 1154 = .ok (.laload, 1) := by decide +kernel
theorem dL_law_1155 : decode cL_law 1155 = .ok (.iload 6, 2) := by decide +kernel
theorem dL_law_1157 : decode cL_law 1157 = .ok (.i2l, 1) := by decide +kernel
theorem dL_law_1158 : decode cL_law 1158 = .ok (.lcmp, 1) := by decide +kernel
theorem dL_law_1159 : decode cL_law 1159 = .ok (.ifCond .eq 5, 3) := by decide +kernel
theorem dL_law_1162 : decode cL_law 1162 = .ok (.iconst 0, 1) := by decide +kernel
theorem dL_law_1163 : decode cL_law 1163 = .ok (.ireturn, 1) := by decide +kernel
theorem dL_law_1164 : decode cL_law 1164 = .ok (.goto 524, 3) := by decide +kernel
theorem dL_law_1167 : decode cL_law 1167 = .ok (.aload_n 1, 1) := by decide +kernel
theorem dL_law_1168 : decode cL_law 1168 = .ok (.aload_n 0, 1) := by decide +kernel
theorem dL_law_1169 : decode cL_law 1169 = .ok (.iload 4, 2) := by decide +kernel
theorem dL_law_1171 : decode cL_law 1171 = .ok (.iconst 1, 1) := by decide +kernel
theorem dL_law_1172 : decode cL_law 1172 = .ok (.iadd, 1) := by decide +kernel
theorem dL_law_1173 : decode cL_law 1173 = .ok (.iaload, 1) := by decide +kernel
theorem dL_law_1174 : decode cL_law 1174 = .ok (.aload_n 3, 1) := by decide +kernel
theorem dL_law_1175 : decode cL_law 1175 = .ok (.invokestatic 167, 3) := by decide +kernel
theorem dL_law_1178 : decode cL_law 1178 = .ok (.istore 5, 2) := by decide +kernel
theorem dL_law_1180 : decode cL_law 1180 = .ok (.aload_n 2, 1) := by decide +kernel
theorem dL_law_1181 : decode cL_law 1181 = .ok (.aload_n 0, 1) := by decide +kernel
theorem dL_law_1182 : decode cL_law 1182 = .ok (.iload 4, 2) := by decide +kernel
theorem dL_law_1184 : decode cL_law 1184 = .ok (.iconst 1, 1) := by decide +kernel
theorem dL_law_1185 : decode cL_law 1185 = .ok (.iadd, 1) := by decide +kernel
theorem dL_law_1186 : decode cL_law 1186 = .ok (.iaload, 1) := by decide +kernel
theorem dL_law_1187 : decode cL_law 1187 = .ok (.invokevirtual 169, 3) := by decide +kernel
theorem dL_law_1190 : decode cL_law 1190 = .ok (.istore 6, 2) := by decide +kernel
theorem dL_law_1192 : decode cL_law 1192 = .ok (.aload_n 2, 1) := by decide +kernel
theorem dL_law_1193 : decode cL_law 1193 = .ok (.invokevirtual 100, 3) := by decide +kernel
theorem dL_law_1196 : decode cL_law 1196 = .ok (.iload 5, 2) := by decide +kernel
theorem dL_law_1198 : decode cL_law 1198 = .ok (.if_icmp .eq 5, 3) := by decide +kernel
theorem dL_law_1201 : decode cL_law 1201 = .ok (.iconst 0, 1) := by decide +kernel
theorem dL_law_1202 : decode cL_law 1202 = .ok (.ireturn, 1) := by decide +kernel
theorem dL_law_1203 : decode cL_law 1203 = .ok (.iload 5, 2) := by decide +kernel
theorem dL_law_1205 : decode cL_law 1205 = .ok (.ifCond .ne 15, 3) := by decide +kernel
theorem dL_law_1208 : decode cL_law 1208 = .ok (.aload_n 3, 1) := by decide +kernel
theorem dL_law_1209 : decode cL_law 1209 = .ok (.iconst 0, 1) := by decide +kernel
theorem dL_law_1210 : decode cL_law 1210 = .ok (.laload, 1) := by decide +kernel
theorem dL_law_1211 : decode cL_law 1211 = .ok (.iload 6, 2) := by decide +kernel
theorem dL_law_1213 : decode cL_law 1213 = .ok (.i2l, 1) := by decide +kernel
theorem dL_law_1214 : decode cL_law 1214 = .ok (.lcmp, 1) := by decide +kernel
theorem dL_law_1215 : decode cL_law 1215 = .ok (.ifCond .eq 5, 3) := by decide +kernel
theorem dL_law_1218 : decode cL_law 1218 = .ok (.iconst 0, 1) := by decide +kernel
theorem dL_law_1219 : decode cL_law 1219 = .ok (.ireturn, 1) := by decide +kernel
theorem dL_law_1220 : decode cL_law 1220 = .ok (.goto 468, 3) := by decide +kernel
theorem dL_law_1223 : decode cL_law 1223 = .ok (.aload_n 1, 1) := by decide +kernel
theorem dL_law_1224 : decode cL_law 1224 = .ok (.invokevirtual 170, 3) := by decide +kernel
theorem dL_law_1227 : decode cL_law 1227 = .ok (.aload_n 2, 1) := by decide +kernel
theorem dL_law_1228 : decode cL_law 1228 = .ok (.invokevirtual 173, 3) := by decide +kernel
theorem dL_law_1231 : decode cL_law 1231 = .ok (.if_icmp .eq 457, 3) := by decide +kernel
theorem dL_law_1234 : decode cL_law 1234 = .ok (.iconst 0, 1) := by decide +kernel
theorem dL_law_1235 : decode cL_law 1235 = .ok (.ireturn, 1) := by decide +kernel
theorem dL_law_1236 : decode cL_law 1236 = .ok (.aload_n 1, 1) := by decide +kernel
theorem dL_law_1237 : decode cL_law 1237 = .ok (.aload_n 3, 1) := by decide +kernel
theorem dL_law_1238 : decode cL_law 1238 = .ok (.invokestatic 174, 3) := by decide +kernel
theorem dL_law_1241 : decode cL_law 1241 = .ok (.istore 5, 2) := by decide +kernel
theorem dL_law_1243 : decode cL_law 1243 = .ok (.aload_n 2, 1) := by decide +kernel
theorem dL_law_1244 : decode cL_law 1244 = .ok (.invokevirtual 176, 3) := by decide +kernel
theorem dL_law_1247 : decode cL_law 1247 = .ok (.istore 6, 2) := by decide +kernel
theorem dL_law_1249 : decode cL_law 1249 = .ok (.aload_n 2, 1) := by decide +kernel
theorem dL_law_1250 : decode cL_law 1250 = .ok (.invokevirtual 100, 3) := by decide +kernel
theorem dL_law_1253 : decode cL_law 1253 = .ok (.iload 5, 2) := by decide +kernel
theorem dL_law_1255 : decode cL_law 1255 = .ok (.if_icmp .eq 5, 3) := by decide +kernel
theorem dL_law_1258 : decode cL_law 1258 = .ok (.iconst 0, 1) := by decide +kernel
theorem dL_law_1259 : decode cL_law 1259 = .ok (.ireturn, 1) := by decide +kernel
theorem dL_law_1260 : decode cL_law 1260 = .ok (.iload 5, 2) := by decide +kernel
theorem dL_law_1262 : decode cL_law 1262 = .ok (.ifCond .ne 15, 3) := by decide +kernel
theorem dL_law_1265 : decode cL_law 1265 = .ok (.aload_n 3, 1) := by decide +kernel
theorem dL_law_1266 : decode cL_law 1266 = .ok (.iconst 0, 1) := by decide +kernel
theorem dL_law_1267 : decode cL_law 1267 = .ok (.laload, 1) := by decide +kernel
theorem dL_law_1268 : decode cL_law 1268 = .ok (.iload 6, 2) := by decide +kernel
theorem dL_law_1270 : decode cL_law 1270 = .ok (.i2l, 1) := by decide +kernel
theorem dL_law_1271 : decode cL_law 1271 = .ok (.lcmp, 1) := by decide +kernel
theorem dL_law_1272 : decode cL_law 1272 = .ok (.ifCond .eq 5, 3) := by decide +kernel
theorem dL_law_1275 : decode cL_law 1275 = .ok (.iconst 0, 1) := by decide +kernel
theorem dL_law_1276 : decode cL_law 1276 = .ok (.ireturn, 1) := by decide +kernel
theorem dL_law_1277 : decode cL_law 1277 = .ok (.goto 411, 3) := by decide +kernel
theorem dL_law_1280 : decode cL_law 1280 = .ok (.aload_n 1, 1) := by decide +kernel
theorem dL_law_1281 : decode cL_law 1281 = .ok (.invokevirtual 177, 3) := by decide +kernel
theorem dL_law_1284 : decode cL_law 1284 = .ok (.aload_n 2, 1) := by decide +kernel
theorem dL_law_1285 : decode cL_law 1285 = .ok (.invokevirtual 180, 3) := by decide +kernel
theorem dL_law_1288 : decode cL_law 1288 = .ok (.if_icmp .eq 400, 3) := by decide +kernel
theorem dL_law_1291 : decode cL_law 1291 = .ok (.iconst 0, 1) := by decide +kernel
theorem dL_law_1292 : decode cL_law 1292 = .ok (.ireturn, 1) := by decide +kernel
theorem dL_law_1293 : decode cL_law 1293 = .ok (.aload_n 1, 1) := by decide +kernel
theorem dL_law_1294 : decode cL_law 1294 = .ok (.aload_n 0, 1) := by decide +kernel
theorem dL_law_1295 : decode cL_law 1295 = .ok (.iload 4, 2) := by decide +kernel
theorem dL_law_1297 : decode cL_law 1297 = .ok (.iconst 1, 1) := by decide +kernel
theorem dL_law_1298 : decode cL_law 1298 = .ok (.iadd, 1) := by decide +kernel
theorem dL_law_1299 : decode cL_law 1299 = .ok (.iaload, 1) := by decide +kernel
theorem dL_law_1300 : decode cL_law 1300 = .ok (.invokevirtual 181, 3) := by decide +kernel
theorem dL_law_1303 : decode cL_law 1303 = .ok (.aload_n 2, 1) := by decide +kernel
theorem dL_law_1304 : decode cL_law 1304 = .ok (.aload_n 0, 1) := by decide +kernel
theorem dL_law_1305 : decode cL_law 1305 = .ok (.iload 4, 2) := by decide +kernel
theorem dL_law_1307 : decode cL_law 1307 = .ok (.iconst 1, 1) := by decide +kernel
theorem dL_law_1308 : decode cL_law 1308 = .ok (.iadd, 1) := by decide +kernel
theorem dL_law_1309 : decode cL_law 1309 = .ok (.iaload, 1) := by decide +kernel
theorem dL_law_1310 : decode cL_law 1310 = .ok (.invokevirtual 184, 3) := by decide +kernel
theorem dL_law_1313 : decode cL_law 1313 = .ok (.if_icmp .eq 375, 3) := by decide +kernel
theorem dL_law_1316 : decode cL_law 1316 = .ok (.iconst 0, 1) := by decide +kernel
theorem dL_law_1317 : decode cL_law 1317 = .ok (.ireturn, 1) := by decide +kernel
theorem dL_law_1318 : decode cL_law 1318 = .ok (.aload_n 1, 1) := by decide +kernel
theorem dL_law_1319 : decode cL_law 1319 = .ok (.aload_n 0, 1) := by decide +kernel
theorem dL_law_1320 : decode cL_law 1320 = .ok (.iload 4, 2) := by decide +kernel
theorem dL_law_1322 : decode cL_law 1322 = .ok (.iconst 1, 1) := by decide +kernel
theorem dL_law_1323 : decode cL_law 1323 = .ok (.iadd, 1) := by decide +kernel
theorem dL_law_1324 : decode cL_law 1324 = .ok (.iaload, 1) := by decide +kernel
theorem dL_law_1325 : decode cL_law 1325 = .ok (.aload_n 0, 1) := by decide +kernel
theorem dL_law_1326 : decode cL_law 1326 = .ok (.iload 4, 2) := by decide +kernel
theorem dL_law_1328 : decode cL_law 1328 = .ok (.iconst 2, 1) := by decide +kernel
theorem dL_law_1329 : decode cL_law 1329 = .ok (.iadd, 1) := by decide +kernel
theorem dL_law_1330 : decode cL_law 1330 = .ok (.iaload, 1) := by decide +kernel
theorem dL_law_1331 : decode cL_law 1331 = .ok (.aload_n 3, 1) := by decide +kernel
theorem dL_law_1332 : decode cL_law 1332 = .ok (.invokestatic 185, 3) := by decide +kernel
theorem dL_law_1335 : decode cL_law 1335 = .ok (.istore 5, 2) := by decide +kernel
theorem dL_law_1337 : decode cL_law 1337 = .ok (.aload_n 2, 1) := by decide +kernel
theorem dL_law_1338 : decode cL_law 1338 = .ok (.aload_n 0, 1) := by decide +kernel
theorem dL_law_1339 : decode cL_law 1339 = .ok (.iload 4, 2) := by decide +kernel
theorem dL_law_1341 : decode cL_law 1341 = .ok (.iconst 1, 1) := by decide +kernel
theorem dL_law_1342 : decode cL_law 1342 = .ok (.iadd, 1) := by decide +kernel
theorem dL_law_1343 : decode cL_law 1343 = .ok (.iaload, 1) := by decide +kernel
theorem dL_law_1344 : decode cL_law 1344 = .ok (.aload_n 0, 1) := by decide +kernel
theorem dL_law_1345 : decode cL_law 1345 = .ok (.iload 4, 2) := by decide +kernel
theorem dL_law_1347 : decode cL_law 1347 = .ok (.iconst 2, 1) := by decide +kernel
theorem dL_law_1348 : decode cL_law 1348 = .ok (.iadd, 1) := by decide +kernel
theorem dL_law_1349 : decode cL_law 1349 = .ok (.iaload, 1) := by decide +kernel
theorem dL_law_1350 : decode cL_law 1350 = .ok (.invokevirtual 187, 3) := by decide +kernel
theorem dL_law_1353 : decode cL_law 1353 = .ok (.istore 6, 2) := by decide +kernel
theorem dL_law_1355 : decode cL_law 1355 = .ok (.aload_n 2, 1) := by decide +kernel
theorem dL_law_1356 : decode cL_law 1356 = .ok (.invokevirtual 100, 3) := by decide +kernel
theorem dL_law_1359 : decode cL_law 1359 = .ok (.iload 5, 2) := by decide +kernel
theorem dL_law_1361 : decode cL_law 1361 = .ok (.if_icmp .eq 5, 3) := by decide +kernel
theorem dL_law_1364 : decode cL_law 1364 = .ok (.iconst 0, 1) := by decide +kernel
theorem dL_law_1365 : decode cL_law 1365 = .ok (.ireturn, 1) := by decide +kernel
theorem dL_law_1366 : decode cL_law 1366 = .ok (.iload 5, 2) := by decide +kernel
theorem dL_law_1368 : decode cL_law 1368 = .ok (.ifCond .ne 22, 3) := by decide +kernel
theorem dL_law_1371 : decode cL_law 1371 = .ok (.aload_n 3, 1) := by decide +kernel
theorem dL_law_1372 : decode cL_law 1372 = .ok (.iconst 0, 1) := by decide +kernel
theorem dL_law_1373 : decode cL_law 1373 = .ok (.laload, 1) := by decide +kernel
theorem dL_law_1374 : decode cL_law 1374 = .ok (.iload 6, 2) := by decide +kernel
theorem dL_law_1376 : decode cL_law 1376 = .ok (.ifCond .eq 7, 3) := by decide +kernel
theorem dL_law_1379 : decode cL_law 1379 = .ok (.lconst 1, 1) := by decide +kernel
theorem dL_law_1380 : decode cL_law 1380 = .ok (.goto 4, 3) := by decide +kernel
theorem dL_law_1383 : decode cL_law 1383 = .ok (.lconst 0, 1) := by decide +kernel
theorem dL_law_1384 : decode cL_law 1384 = .ok (.lcmp, 1) := by decide +kernel
theorem dL_law_1385 : decode cL_law 1385 = .ok (.ifCond .eq 5, 3) := by decide +kernel
theorem dL_law_1388 : decode cL_law 1388 = .ok (.iconst 0, 1) := by decide +kernel
theorem dL_law_1389 : decode cL_law 1389 = .ok (.ireturn, 1) := by decide +kernel
theorem dL_law_1390 : decode cL_law 1390 = .ok (.goto 298, 3) := by decide +kernel
theorem dL_law_1393 : decode cL_law 1393 = .ok (.aload_n 1, 1) := by decide +kernel
theorem dL_law_1394 : decode cL_law 1394 = .ok (.aload_n 0, 1) := by decide +kernel
theorem dL_law_1395 : decode cL_law 1395 = .ok (.iload 4, 2) := by decide +kernel
theorem dL_law_1397 : decode cL_law 1397 = .ok (.iconst 1, 1) := by decide +kernel
theorem dL_law_1398 : decode cL_law 1398 = .ok (.iadd, 1) := by decide +kernel
theorem dL_law_1399 : decode cL_law 1399 = .ok (.iaload, 1) := by decide +kernel
theorem dL_law_1400 : decode cL_law 1400 = .ok (.aload_n 0, 1) := by decide +kernel
theorem dL_law_1401 : decode cL_law 1401 = .ok (.iload 4, 2) := by decide +kernel
theorem dL_law_1403 : decode cL_law 1403 = .ok (.iconst 2, 1) := by decide +kernel
theorem dL_law_1404 : decode cL_law 1404 = .ok (.iadd, 1) := by decide +kernel
theorem dL_law_1405 : decode cL_law 1405 = .ok (.iaload, 1) := by decide +kernel
theorem dL_law_1406 : decode cL_law 1406 = .ok (.aload_n 3, 1) := by decide +kernel
theorem dL_law_1407 : decode cL_law 1407 = .ok (.invokestatic 188, 3) := by decide +kernel
theorem dL_law_1410 : decode cL_law 1410 = .ok (.istore 5, 2) := by decide +kernel
theorem dL_law_1412 : decode cL_law 1412 = .ok (.aload_n 2, 1) := by decide +kernel
theorem dL_law_1413 : decode cL_law 1413 = .ok (.aload_n 0, 1) := by decide +kernel
theorem dL_law_1414 : decode cL_law 1414 = .ok (.iload 4, 2) := by decide +kernel
theorem dL_law_1416 : decode cL_law 1416 = .ok (.iconst 1, 1) := by decide +kernel
theorem dL_law_1417 : decode cL_law 1417 = .ok (.iadd, 1) := by decide +kernel
theorem dL_law_1418 : decode cL_law 1418 = .ok (.iaload, 1) := by decide +kernel
theorem dL_law_1419 : decode cL_law 1419 = .ok (.aload_n 0, 1) := by decide +kernel
theorem dL_law_1420 : decode cL_law 1420 = .ok (.iload 4, 2) := by decide +kernel
theorem dL_law_1422 : decode cL_law 1422 = .ok (.iconst 2, 1) := by decide +kernel
theorem dL_law_1423 : decode cL_law 1423 = .ok (.iadd, 1) := by decide +kernel
theorem dL_law_1424 : decode cL_law 1424 = .ok (.iaload, 1) := by decide +kernel
theorem dL_law_1425 : decode cL_law 1425 = .ok (.invokevirtual 190, 3) := by decide +kernel
theorem dL_law_1428 : decode cL_law 1428 = .ok (.istore 6, 2) := by decide +kernel
theorem dL_law_1430 : decode cL_law 1430 = .ok (.aload_n 2, 1) := by decide +kernel
theorem dL_law_1431 : decode cL_law 1431 = .ok (.invokevirtual 100, 3) := by decide +kernel
theorem dL_law_1434 : decode cL_law 1434 = .ok (.iload 5, 2) := by decide +kernel
theorem dL_law_1436 : decode cL_law 1436 = .ok (.if_icmp .eq 5, 3) := by decide +kernel
theorem dL_law_1439 : decode cL_law 1439 = .ok (.iconst 0, 1) := by decide +kernel
theorem dL_law_1440 : decode cL_law 1440 = .ok (.ireturn, 1) := by decide +kernel
theorem dL_law_1441 : decode cL_law 1441 = .ok (.iload 5, 2) := by decide +kernel
theorem dL_law_1443 : decode cL_law 1443 = .ok (.ifCond .ne 22, 3) := by decide +kernel
theorem dL_law_1446 : decode cL_law 1446 = .ok (.aload_n 3, 1) := by decide +kernel
theorem dL_law_1447 : decode cL_law 1447 = .ok (.iconst 0, 1) := by decide +kernel
theorem dL_law_1448 : decode cL_law 1448 = .ok (.laload, 1) := by decide +kernel
theorem dL_law_1449 : decode cL_law 1449 = .ok (.iload 6, 2) := by decide +kernel
theorem dL_law_1451 : decode cL_law 1451 = .ok (.ifCond .eq 7, 3) := by decide +kernel
theorem dL_law_1454 : decode cL_law 1454 = .ok (.lconst 1, 1) := by decide +kernel
theorem dL_law_1455 : decode cL_law 1455 = .ok (.goto 4, 3) := by decide +kernel
theorem dL_law_1458 : decode cL_law 1458 = .ok (.lconst 0, 1) := by decide +kernel
theorem dL_law_1459 : decode cL_law 1459 = .ok (.lcmp, 1) := by decide +kernel
theorem dL_law_1460 : decode cL_law 1460 = .ok (.ifCond .eq 5, 3) := by decide +kernel
theorem dL_law_1463 : decode cL_law 1463 = .ok (.iconst 0, 1) := by decide +kernel
theorem dL_law_1464 : decode cL_law 1464 = .ok (.ireturn, 1) := by decide +kernel
theorem dL_law_1465 : decode cL_law 1465 = .ok (.goto 223, 3) := by decide +kernel
theorem dL_law_1468 : decode cL_law 1468 = .ok (.aload_n 1, 1) := by decide +kernel
theorem dL_law_1469 : decode cL_law 1469 = .ok (.invokevirtual 191, 3) := by decide +kernel
theorem dL_law_1472 : decode cL_law 1472 = .ok (.aload_n 2, 1) := by decide +kernel
theorem dL_law_1473 : decode cL_law 1473 = .ok (.invokevirtual 194, 3) := by decide +kernel
theorem dL_law_1476 : decode cL_law 1476 = .ok (.if_icmp .eq 212, 3) := by decide +kernel
theorem dL_law_1479 : decode cL_law 1479 = .ok (.iconst 0, 1) := by decide +kernel
theorem dL_law_1480 : decode cL_law 1480 = .ok (.ireturn, 1) := by decide +kernel
theorem dL_law_1481 : decode cL_law 1481 = .ok (.aload_n 1, 1) := by decide +kernel
theorem dL_law_1482 : decode cL_law 1482 = .ok (.invokevirtual 195, 3) := by decide +kernel
theorem dL_law_1485 : decode cL_law 1485 = .ok (.aload_n 2, 1) := by decide +kernel
theorem dL_law_1486 : decode cL_law 1486 = .ok (.invokevirtual 198, 3) := by decide +kernel
theorem dL_law_1489 : decode cL_law 1489 = .ok (.if_icmp .eq 199, 3) := by decide +kernel
theorem dL_law_1492 : decode cL_law 1492 = .ok (.iconst 0, 1) := by decide +kernel
theorem dL_law_1493 : decode cL_law 1493 = .ok (.ireturn, 1) := by decide +kernel
theorem dL_law_1494 : decode cL_law 1494 = .ok (.aload_n 1, 1) := by decide +kernel
theorem dL_law_1495 : decode cL_law 1495 = .ok (.invokevirtual 199, 3) := by decide +kernel
theorem dL_law_1498 : decode cL_law 1498 = .ok (.aload_n 2, 1) := by decide +kernel
theorem dL_law_1499 : decode cL_law 1499 = .ok (.invokevirtual 203, 3) := by decide +kernel
theorem dL_law_1502 : decode cL_law 1502 = .ok (.if_icmp .eq 186, 3) := by decide +kernel
theorem dL_law_1505 : decode cL_law 1505 = .ok (.iconst 0, 1) := by decide +kernel
theorem dL_law_1506 : decode cL_law 1506 = .ok (.ireturn, 1) := by decide +kernel
theorem dL_law_1507 : decode cL_law 1507 = .ok (.aload_n 1, 1) := by decide +kernel
theorem dL_law_1508 : decode cL_law 1508 = .ok (.aload_n 0, 1) := by decide +kernel
theorem dL_law_1509 : decode cL_law 1509 = .ok (.iload 4, 2) := by decide +kernel
theorem dL_law_1511 : decode cL_law 1511 = .ok (.iconst 1, 1) := by decide +kernel
theorem dL_law_1512 : decode cL_law 1512 = .ok (.iadd, 1) := by decide +kernel
theorem dL_law_1513 : decode cL_law 1513 = .ok (.iaload, 1) := by decide +kernel
theorem dL_law_1514 : decode cL_law 1514 = .ok (.aload_n 3, 1) := by decide +kernel
theorem dL_law_1515 : decode cL_law 1515 = .ok (.invokestatic 204, 3) := by decide +kernel
theorem dL_law_1518 : decode cL_law 1518 = .ok (.istore 5, 2) := by decide +kernel
theorem dL_law_1520 : decode cL_law 1520 = .ok (.aload_n 2, 1) := by decide +kernel
theorem dL_law_1521 : decode cL_law 1521 = .ok (.aload_n 0, 1) := by decide +kernel
theorem dL_law_1522 : decode cL_law 1522 = .ok (.iload 4, 2) := by decide +kernel
theorem dL_law_1524 : decode cL_law 1524 = .ok (.iconst 1, 1) := by decide +kernel
theorem dL_law_1525 : decode cL_law 1525 = .ok (.iadd, 1) := by decide +kernel
theorem dL_law_1526 : decode cL_law 1526 = .ok (.iaload, 1) := by decide +kernel
theorem dL_law_1527 : decode cL_law 1527 = .ok (.invokevirtual 206, 3) := by decide +kernel
theorem dL_law_1530 : decode cL_law 1530 = .ok (.istore 6, 2) := by decide +kernel
theorem dL_law_1532 : decode cL_law 1532 = .ok (.aload_n 2, 1) := by decide +kernel
theorem dL_law_1533 : decode cL_law 1533 = .ok (.invokevirtual 100, 3) := by decide +kernel
theorem dL_law_1536 : decode cL_law 1536 = .ok (.iload 5, 2) := by decide +kernel
theorem dL_law_1538 : decode cL_law 1538 = .ok (.if_icmp .eq 5, 3) := by decide +kernel
theorem dL_law_1541 : decode cL_law 1541 = .ok (.iconst 0, 1) := by decide +kernel
theorem dL_law_1542 : decode cL_law 1542 = .ok (.ireturn, 1) := by decide +kernel
theorem dL_law_1543 : decode cL_law 1543 = .ok (.iload 5, 2) := by decide +kernel
theorem dL_law_1545 : decode cL_law 1545 = .ok (.ifCond .ne 15, 3) := by decide +kernel
theorem dL_law_1548 : decode cL_law 1548 = .ok (.aload_n 3, 1) := by decide +kernel
theorem dL_law_1549 : decode cL_law 1549 = .ok (.iconst 0, 1) := by decide +kernel
theorem dL_law_1550 : decode cL_law 1550 = .ok (.laload, 1) := by decide +kernel
theorem dL_law_1551 : decode cL_law 1551 = .ok (.iload 6, 2) := by decide +kernel
theorem dL_law_1553 : decode cL_law 1553 = .ok (.i2l, 1) := by decide +kernel
theorem dL_law_1554 : decode cL_law 1554 = .ok (.lcmp, 1) := by decide +kernel
theorem dL_law_1555 : decode cL_law 1555 = .ok (.ifCond .eq 5, 3) := by decide +kernel
theorem dL_law_1558 : decode cL_law 1558 = .ok (.iconst 0, 1) := by decide +kernel
theorem dL_law_1559 : decode cL_law 1559 = .ok (.ireturn, 1) := by decide +kernel
theorem dL_law_1560 : decode cL_law 1560 = .ok (.goto 128, 3) := by decide +kernel
theorem dL_law_1563 : decode cL_law 1563 = .ok (.aload_n 1, 1) := by decide +kernel
theorem dL_law_1564 : decode cL_law 1564 = .ok (.invokevirtual 207, 3) := by decide +kernel
theorem dL_law_1567 : decode cL_law 1567 = .ok (.aload_n 2, 1) := by decide +kernel
theorem dL_law_1568 : decode cL_law 1568 = .ok (.invokevirtual 210, 3) := by decide +kernel
theorem dL_law_1571 : decode cL_law 1571 = .ok (.if_icmp .eq 117, 3) := by decide +kernel
theorem dL_law_1574 : decode cL_law 1574 = .ok (.iconst 0, 1) := by decide +kernel
theorem dL_law_1575 : decode cL_law 1575 = .ok (.ireturn, 1) := by decide +kernel
theorem dL_law_1576 : decode cL_law 1576 = .ok (.aload_n 1, 1) := by decide +kernel
theorem dL_law_1577 : decode cL_law 1577 = .ok (.aload_n 0, 1) := by decide +kernel
theorem dL_law_1578 : decode cL_law 1578 = .ok (.iload 4, 2) := by decide +kernel
theorem dL_law_1580 : decode cL_law 1580 = .ok (.iconst 1, 1) := by decide +kernel
theorem dL_law_1581 : decode cL_law 1581 = .ok (.iadd, 1) := by decide +kernel
theorem dL_law_1582 : decode cL_law 1582 = .ok (.iaload, 1) := by decide +kernel
theorem dL_law_1583 : decode cL_law 1583 = .ok (.aload_n 3, 1) := by decide +kernel
theorem dL_law_1584 : decode cL_law 1584 = .ok (.invokestatic 211, 3) := by decide +kernel
theorem dL_law_1587 : decode cL_law 1587 = .ok (.istore 5, 2) := by decide +kernel
theorem dL_law_1589 : decode cL_law 1589 = .ok (.aload_n 2, 1) := by decide +kernel
theorem dL_law_1590 : decode cL_law 1590 = .ok (.aload_n 0, 1) := by decide +kernel
theorem dL_law_1591 : decode cL_law 1591 = .ok (.iload 4, 2) := by decide +kernel
theorem dL_law_1593 : decode cL_law 1593 = .ok (.iconst 1, 1) := by decide +kernel
theorem dL_law_1594 : decode cL_law 1594 = .ok (.iadd, 1) := by decide +kernel
theorem dL_law_1595 : decode cL_law 1595 = .ok (.iaload, 1) := by decide +kernel
theorem dL_law_1596 : decode cL_law 1596 = .ok (.invokevirtual 213, 3) := by decide +kernel
theorem dL_law_1599 : decode cL_law 1599 = .ok (.istore 6, 2) := by decide +kernel
theorem dL_law_1601 : decode cL_law 1601 = .ok (.aload_n 2, 1) := by decide +kernel
theorem dL_law_1602 : decode cL_law 1602 = .ok (.invokevirtual 100, 3) := by decide +kernel
theorem dL_law_1605 : decode cL_law 1605 = .ok (.iload 5, 2) := by decide +kernel
theorem dL_law_1607 : decode cL_law 1607 = .ok (.if_icmp .eq 5, 3) := by decide +kernel
theorem dL_law_1610 : decode cL_law 1610 = .ok (.iconst 0, 1) := by decide +kernel
theorem dL_law_1611 : decode cL_law 1611 = .ok (.ireturn, 1) := by decide +kernel
theorem dL_law_1612 : decode cL_law 1612 = .ok (.iload 5, 2) := by decide +kernel
theorem dL_law_1614 : decode cL_law 1614 = .ok (.ifCond .ne 15, 3) := by decide +kernel
theorem dL_law_1617 : decode cL_law 1617 = .ok (.aload_n 3, 1) := by decide +kernel
theorem dL_law_1618 : decode cL_law 1618 = .ok (.iconst 0, 1) := by decide +kernel
theorem dL_law_1619 : decode cL_law 1619 = .ok (.laload, 1) := by decide +kernel
theorem dL_law_1620 : decode cL_law 1620 = .ok (.iload 6, 2) := by decide +kernel
theorem dL_law_1622 : decode cL_law 1622 = .ok (.i2l, 1) := by decide +kernel
theorem dL_law_1623 : decode cL_law 1623 = .ok (.lcmp, 1) := by decide +kernel
theorem dL_law_1624 : decode cL_law 1624 = .ok (.ifCond .eq 5, 3) := by decide +kernel
theorem dL_law_1627 : decode cL_law 1627 = .ok (.iconst 0, 1) := by decide +kernel
theorem dL_law_1628 : decode cL_law 1628 = .ok (.ireturn, 1) := by decide +kernel
theorem dL_law_1629 : decode cL_law 1629 = .ok (.goto 59, 3) := by decide +kernel
theorem dL_law_1632 : decode cL_law 1632 = .ok (.aload_n 1, 1) := by decide +kernel
theorem dL_law_1633 : decode cL_law 1633 = .ok (.aload_n 0, 1) := by decide +kernel
theorem dL_law_1634 : decode cL_law 1634 = .ok (.iload 4, 2) := by decide +kernel
theorem dL_law_1636 : decode cL_law 1636 = .ok (.iconst 1, 1) := by decide +kernel
theorem dL_law_1637 : decode cL_law 1637 = .ok (.iadd, 1) := by decide +kernel
theorem dL_law_1638 : decode cL_law 1638 = .ok (.iaload, 1) := by decide +kernel
theorem dL_law_1639 : decode cL_law 1639 = .ok (.aload_n 3, 1) := by decide +kernel
theorem dL_law_1640 : decode cL_law 1640 = .ok (.invokestatic 214, 3) := by decide +kernel
theorem dL_law_1643 : decode cL_law 1643 = .ok (.istore 5, 2) := by decide +kernel
theorem dL_law_1645 : decode cL_law 1645 = .ok (.aload_n 2, 1) := by decide +kernel
theorem dL_law_1646 : decode cL_law 1646 = .ok (.aload_n 0, 1) := by decide +kernel
theorem dL_law_1647 : decode cL_law 1647 = .ok (.iload 4, 2) := by decide +kernel
theorem dL_law_1649 : decode cL_law 1649 = .ok (.iconst 1, 1) := by decide +kernel
theorem dL_law_1650 : decode cL_law 1650 = .ok (.iadd, 1) := by decide +kernel
theorem dL_law_1651 : decode cL_law 1651 = .ok (.iaload, 1) := by decide +kernel
theorem dL_law_1652 : decode cL_law 1652 = .ok (.invokevirtual 216, 3) := by decide +kernel
theorem dL_law_1655 : decode cL_law 1655 = .ok (.istore 6, 2) := by decide +kernel
theorem dL_law_1657 : decode cL_law 1657 = .ok (.aload_n 2, 1) := by decide +kernel
theorem dL_law_1658 : decode cL_law 1658 = .ok (.invokevirtual 100, 3) := by decide +kernel
theorem dL_law_1661 : decode cL_law 1661 = .ok (.iload 5, 2) := by decide +kernel
theorem dL_law_1663 : decode cL_law 1663 = .ok (.if_icmp .eq 5, 3) := by decide +kernel
theorem dL_law_1666 : decode cL_law 1666 = .ok (.iconst 0, 1) := by decide +kernel
theorem dL_law_1667 : decode cL_law 1667 = .ok (.ireturn, 1) := by decide +kernel
theorem dL_law_1668 : decode cL_law 1668 = .ok (.iload 5, 2) := by decide +kernel
theorem dL_law_1670 : decode cL_law 1670 = .ok (.ifCond .ne 15, 3) := by decide +kernel
theorem dL_law_1673 : decode cL_law 1673 = .ok (.aload_n 3, 1) := by decide +kernel
theorem dL_law_1674 : decode cL_law 1674 = .ok (.iconst 0, 1) := by decide +kernel
theorem dL_law_1675 : decode cL_law 1675 = .ok (.laload, 1) := by decide +kernel
theorem dL_law_1676 : decode cL_law 1676 = .ok (.iload 6, 2) := by decide +kernel
theorem dL_law_1678 : decode cL_law 1678 = .ok (.i2l, 1) := by decide +kernel
theorem dL_law_1679 : decode cL_law 1679 = .ok (.lcmp, 1) := by decide +kernel
theorem dL_law_1680 : decode cL_law 1680 = .ok (.ifCond .eq 5, 3) := by decide +kernel
theorem dL_law_1683 : decode cL_law 1683 = .ok (.iconst 0, 1) := by decide +kernel
theorem dL_law_1684 : decode cL_law 1684 = .ok (.ireturn, 1) := by decide +kernel
theorem dL_law_1685 : decode cL_law 1685 = .ok (.goto 3, 3) := by decide +kernel
theorem dL_law_1688 : decode cL_law 1688 = .ok (.iinc 4 4, 3) := by decide +kernel
theorem dL_law_1691 : decode cL_law 1691 = .ok (.goto (-1668), 3) := by decide +kernel
theorem dL_law_1694 : decode cL_law 1694 = .ok (.iconst 1, 1) := by decide +kernel
theorem dL_law_1695 : decode cL_law 1695 = .ok (.ireturn, 1) := by decide +kernel
