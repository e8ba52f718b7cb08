theorem dX8_proof_18 : decode cX8_proof 18 = .ok (.iload_n 2, 1) := by decide +kernel
theorem dX8_proof_19 : decode cX8_proof 19 = .ok (.i2l, 1) := by decide +kernel
theorem dX8_proof_20 : decode cX8_proof 20 = .ok (.lreturn, 1) := by decide +kernel
theorem dX8_proof_21 : decode cX8_proof 21 = .ok (.lconst 0, 1) := by decide +kernel
theorem dX8_proof_22 : decode cX8_proof 22 = .ok (.lstore_n 3, 1) := by decide +kernel
theorem dX8_proof_23 : decode cX8_proof 23 = .ok (.iconst 0, 1) := by decide +kernel
theorem dX8_proof_24 : decode cX8_proof 24 = .ok (.istore 5, 2) := by decide +kernel
theorem dX8_proof_26 : decode cX8_proof 26 = .ok (.iload 5, 2) := by decide +kernel
theorem dX8_proof_28 : decode cX8_proof 28 = .ok (.aload_n 0, 1) := by decide +kernel
theorem dX8_proof_29 : decode cX8_proof 29 = .ok (.getfield 154, 3) := by decide +kernel
theorem dX8_proof_32 : decode cX8_proof 32 = .ok (.if_icmp .ge 33, 3) := by decide +kernel
theorem dX8_proof_35 : decode cX8_proof 35 = .ok (.lload_n 3, 1) := by decide +kernel
theorem dX8_proof_36 : decode cX8_proof 36 = .ok (.aload_n 0, 1) := by decide +kernel
theorem dX8_proof_37 : decode cX8_proof 37 = .ok (.getfield 54, 3) := by decide +kernel
theorem dX8_proof_40 : decode cX8_proof 40 = .ok (.iload 5, 2) := by decide +kernel
theorem dX8_proof_42 : decode cX8_proof 42 = .ok (.iaload, 1) := by decide +kernel
theorem dX8_proof_43 : decode cX8_proof 43 = .ok (.i2l, 1) := by decide +kernel
theorem dX8_proof_44 : decode cX8_proof 44 = .ok (.aload_n 0, 1) := by decide +kernel
theorem dX8_proof_45 : decode cX8_proof 45 = .ok (.getfield 16, 3) := by decide +kernel
theorem dX8_proof_48 : decode cX8_proof 48 = .ok (.bipush 60, 2) := by decide +kernel
theorem dX8_proof_50 : decode cX8_proof 50 = .ok (.iload_n 1, 1) := by decide +kernel
theorem dX8_proof_51 : decode cX8_proof 51 = .ok (.imul, 1) := by decide +kernel
theorem dX8_proof_52 : decode cX8_proof 52 = .ok (.iload 5, 2) := by decide +kernel
theorem dX8_proof_54 : decode cX8_proof 54 = .ok (.iadd, 1) := by decide +kernel
theorem dX8_proof_55 : decode cX8_proof 55 = .ok (.laload, 1) := by decide +kernel
theorem dX8_proof_56 : decode cX8_proof 56 = .ok (.lmul, 1) := by decide +kernel
theorem dX8_proof_57 : decode cX8_proof 57 = .ok (.ladd, 1) := by decide +kernel
theorem dX8_proof_58 : decode cX8_proof 58 = .ok (.lstore_n 3, 1) := by decide +kernel
theorem dX8_proof_59 : decode cX8_proof 59 = .ok (.iinc 5 1, 3) := by decide +kernel
theorem dX8_proof_62 : decode cX8_proof 62 = .ok (.goto (-36), 3) := by decide +kernel
theorem dX8_proof_65 : decode cX8_proof 65 = .ok (.lconst 0, 1) := by decide +kernel
theorem dX8_proof_66 : decode cX8_proof 66 = .ok (.lstore 5, 2) := by decide +kernel
theorem dX8_proof_68 : decode cX8_proof 68 = .ok (.iconst 0, 1) := by decide +kernel
theorem dX8_proof_69 : decode cX8_proof 69 = .ok (.istore 7, 2) := by decide +kernel
theorem dX8_proof_71 : decode cX8_proof 71 = .ok (.iload 7, 2) := by decide +kernel
theorem dX8_proof_73 : decode cX8_proof 73 = .ok (.iconst 1, 1) := by decide +kernel
theorem dX8_proof_74 : decode cX8_proof 74 = .ok (.aload_n 0, 1) := by decide +kernel
theorem dX8_proof_75 : decode cX8_proof 75 = .ok (.getfield 154, 3) := by decide +kernel
theorem dX8_proof_78 : decode cX8_proof 78 = .ok (.ishl, 1) := by decide +kernel
theorem dX8_proof_79 : decode cX8_proof 79 = .ok (.if_icmp .ge 83, 3) := by decide +kernel
theorem dX8_proof_82 : decode cX8_proof 82 = .ok (.aload_n 0, 1) := by decide +kernel
theorem dX8_proof_83 : decode cX8_proof 83 = .ok (.iload 7, 2) := by decide +kernel
theorem dX8_proof_85 : decode cX8_proof 85 = .ok (.invokevirtual 193, 3) := by decide +kernel
theorem dX8_proof_88 : decode cX8_proof 88 = .ok (.ifCond .ne 6, 3) := by decide +kernel
theorem dX8_proof_91 : decode cX8_proof 91 = .ok (.goto 65, 3) := by decide +kernel
theorem dX8_proof_94 : decode cX8_proof 94 = .ok (.lconst 0, 1) := by decide +kernel
theorem dX8_proof_95 : decode cX8_proof 95 = .ok (.lstore 8, 2) := by decide +kernel
theorem dX8_proof_97 : decode cX8_proof 97 = .ok (.iconst 0, 1) := by decide +kernel
theorem dX8_proof_98 : decode cX8_proof 98 = .ok (.istore 10, 2) := by decide +kernel
theorem dX8_proof_100 : decode cX8_proof 100 = .ok (.iload 10, 2) := by decide +kernel
theorem dX8_proof_102 : decode cX8_proof 102 = .ok (.aload_n 0, 1) := by decide +kernel
theorem dX8_proof_103 : decode cX8_proof 103 = .ok (.getfield 154, 3) := by decide +kernel
theorem dX8_proof_106 : decode cX8_proof 106 = .ok (.if_icmp .ge 41, 3) := by decide +kernel
theorem dX8_proof_109 : decode cX8_proof 109 = .ok (.lload 8, 2) := by decide +kernel
theorem dX8_proof_111 : decode cX8_proof 111 = .ok (.iload 7, 2) := by decide +kernel
theorem dX8_proof_113 : decode cX8_proof 113 = .ok (.iload 10, 2) := by decide +kernel
theorem dX8_proof_115 : decode cX8_proof 115 = .ok (.ishr, 1) := by decide +kernel
theorem dX8_proof_116 : decode cX8_proof 116 = .ok (.iconst 1, 1) := by decide +kernel
theorem dX8_proof_117 : decode cX8_proof 117 = .ok (.iand, 1) := by decide +kernel
theorem dX8_proof_118 : decode cX8_proof 118 = .ok (.iconst 1, 1) := by decide +kernel
theorem dX8_proof_119 : decode cX8_proof 119 = .ok (.if_icmp .ne 18, 3) := by decide +kernel
theorem dX8_proof_122 : decode cX8_proof 122 = .ok (.aload_n 0, 1) := by decide +kernel
theorem dX8_proof_123 : decode cX8_proof 123 = .ok (.getfield 16, 3) := by decide +kernel
theorem dX8_proof_126 : decode cX8_proof 126 = .ok (.bipush 60, 2) := by decide +kernel
theorem dX8_proof_128 : decode cX8_proof 128 = .ok (.iload_n 1, 1) := by decide +kernel
theorem dX8_proof_129 : decode cX8_proof 129 = .ok (.imul, 1) := by decide +kernel
theorem dX8_proof_130 : decode cX8_proof 130 = .ok (.iload 10, 2) := by decide +kernel
theorem dX8_proof_132 : decode cX8_proof 132 = .ok (.iadd, 1) := by decide +kernel
theorem dX8_proof_133 : decode cX8_proof 133 = .ok (.laload, 1) := by decide +kernel
theorem dX8_proof_134 : decode cX8_proof 134 = .ok (.goto 4, 3) := by decide +kernel
theorem dX8_proof_137 : decode cX8_proof 137 = .ok (.lconst 0, 1) := by decide +kernel
theorem dX8_proof_138 : decode cX8_proof 138 = .ok (.ladd, 1) := by decide +kernel
theorem dX8_proof_139 : decode cX8_proof 139 = .ok (.lstore 8, 2) := by decide +kernel
theorem dX8_proof_141 : decode cX8_proof 141 = .ok (.iinc 10 1, 3) := by decide +kernel
theorem dX8_proof_144 : decode cX8_proof 144 = .ok (.goto (-44), 3) := by decide +kernel
theorem dX8_proof_147 : decode cX8_proof 147 = .ok (.lload 5, 2) := by decide +kernel
theorem dX8_proof_149 : decode cX8_proof 149 = .ok (.lload 8, 2) := by decide +kernel
theorem dX8_proof_151 : decode cX8_proof 151 = .ok (.invokestatic 228, 3) := by decide +kernel
theorem dX8_proof_154 : decode cX8_proof 154 = .ok (.lstore 5, 2) := by decide +kernel
theorem dX8_proof_156 : decode cX8_proof 156 = .ok (.iinc 7 1, 3) := by decide +kernel
theorem dX8_proof_159 : decode cX8_proof 159 = .ok (.goto (-88), 3) := by decide +kernel
theorem dX8_proof_162 : decode cX8_proof 162 = .ok (.lload 5, 2) := by decide +kernel
theorem dX8_proof_164 : decode cX8_proof 164 = .ok (.lconst 0, 1) := by decide +kernel
theorem dX8_proof_165 : decode cX8_proof 165 = .ok (.lcmp, 1) := by decide +kernel
theorem dX8_proof_166 : decode cX8_proof 166 = .ok (.ifCond .ne 17, 3) := by decide +kernel
theorem dX8_proof_169 : decode cX8_proof 169 = .ok (.lload_n 3, 1) := by decide +kernel
theorem dX8_proof_170 : decode cX8_proof 170 = .ok (.lconst 0, 1) := by decide +kernel
theorem dX8_proof_171 : decode cX8_proof 171 = .ok (.lcmp, 1) := by decide +kernel
theorem dX8_proof_172 : decode cX8_proof 172 = .ok (.ifCond .ne 7, 3) := by decide +kernel
theorem dX8_proof_175 : decode cX8_proof 175 = .ok (.lconst 0, 1) := by decide +kernel
theorem dX8_proof_176 : decode cX8_proof 176 = .ok (.goto 6, 3) := by decide +kernel
theorem dX8_proof_179 : decode cX8_proof 179 = .ok (.ldc2_w 232, 3) := by decide +kernel
theorem dX8_proof_182 : decode cX8_proof 182 = .ok (.lreturn, 1) := by decide +kernel
theorem dX8_proof_183 : decode cX8_proof 183 = .ok (.lload_n 3, 1) := by decide +kernel
theorem dX8_proof_184 : decode cX8_proof 184 = .ok (.lload 5, 2) := by decide +kernel
theorem dX8_proof_186 : decode cX8_proof 186 = .ok (.ladd, 1) := by decide +kernel
theorem dX8_proof_187 : decode cX8_proof 187 = .ok (.lconst 1, 1) := by decide +kernel
theorem dX8_proof_188 : decode cX8_proof 188 = .ok (.lsub, 1) := by decide +kernel
theorem dX8_proof_189 : decode cX8_proof 189 = .ok (.lload 5, 2) := by decide +kernel
theorem dX8_proof_191 : decode cX8_proof 191 = .ok (.ldiv, 1) := by decide +kernel
theorem dX8_proof_192 : decode cX8_proof 192 = .ok (.lreturn, 1) := by decide +kernel
theorem dX8_adds_0 : decode cX8_adds 0 = .ok (.lconst 0, 1) := by decide +kernel
theorem dX8_adds_1 : decode cX8_adds 1 = .ok (.lstore_n 2, 1) := by decide +kernel
theorem dX8_adds_2 : decode cX8_adds 2 = .ok (.iconst 0, 1) := by decide +kernel
theorem dX8_adds_3 : decode cX8_adds 3 = .ok (.istore 4, 2) := by decide +kernel
theorem dX8_adds_5 : decode cX8_adds 5 = .ok (.iload 4, 2) := by decide +kernel
theorem dX8_adds_7 : decode cX8_adds 7 = .ok (.bipush 40, 2) := by decide +kernel
theorem dX8_adds_9 : decode cX8_adds 9 = .ok (.if_icmp .ge 39, 3) := by decide +kernel
theorem dX8_adds_12 : decode cX8_adds 12 = .ok (.lload_n 2, 1) := by decide +kernel
theorem dX8_adds_13 : decode cX8_adds 13 = .ok (.aload_n 0, 1) := by decide +kernel
theorem dX8_adds_14 : decode cX8_adds 14 = .ok (.iload 4, 2) := by decide +kernel
theorem dX8_adds_16 : decode cX8_adds 16 = .ok (.iaload, 1) := by decide +kernel
theorem dX8_adds_17 : decode cX8_adds 17 = .ok (.i2l, 1) := by decide +kernel
theorem dX8_adds_18 : decode cX8_adds 18 = .ok (.aload_n 1, 1) := by decide +kernel
theorem dX8_adds_19 : decode cX8_adds 19 = .ok (.iload 4, 2) := by decide +kernel
theorem dX8_adds_21 : decode cX8_adds 21 = .ok (.iaload, 1) := by decide +kernel
theorem dX8_adds_22 : decode cX8_adds 22 = .ok (.i2l, 1) := by decide +kernel
theorem dX8_adds_23 : decode cX8_adds 23 = .ok (.ladd, 1) := by decide +kernel
theorem dX8_adds_24 : decode cX8_adds 24 = .ok (.ladd, 1) := by decide +kernel
theorem dX8_adds_25 : decode cX8_adds 25 = .ok (.lstore_n 2, 1) := by decide +kernel
theorem dX8_adds_26 : decode cX8_adds 26 = .ok (.aload_n 0, 1) := by decide +kernel
theorem dX8_adds_27 : decode cX8_adds 27 = .ok (.iload 4, 2) := by decide +kernel
theorem dX8_adds_29 : decode cX8_adds 29 = .ok (.lload_n 2, 1) := by decide +kernel
theorem dX8_adds_30 : decode cX8_adds 30 = .ok (.ldc2_w 234, 3) := by decide +kernel
theorem dX8_adds_33 : decode cX8_adds 33 = .ok (.lrem, 1) := by decide +kernel
theorem dX8_adds_34 : decode cX8_adds 34 = .ok (.l2i, 1) := by decide +kernel
theorem dX8_adds_35 : decode cX8_adds 35 = .ok (.iastore, 1) := by decide +kernel
theorem dX8_adds_36 : decode cX8_adds 36 = .ok (.lload_n 2, 1) := by decide +kernel
theorem dX8_adds_37 : decode cX8_adds 37 = .ok (.ldc2_w 234, 3) := by decide +kernel
theorem dX8_adds_40 : decode cX8_adds 40 = .ok (.ldiv, 1) := by decide +kernel
theorem dX8_adds_41 : decode cX8_adds 41 = .ok (.lstore_n 2, 1) := by decide +kernel
theorem dX8_adds_42 : decode cX8_adds 42 = .ok (.iinc 4 1, 3) := by decide +kernel
theorem dX8_adds_45 : decode cX8_adds 45 = .ok (.goto (-40), 3) := by decide +kernel
theorem dX8_adds_48 : decode cX8_adds 48 = .ok (.return_, 1) := by decide +kernel
theorem dX8_multiplies_0 : decode cX8_multiplies 0 = .ok (.lconst 0, 1) := by decide +kernel
theorem dX8_multiplies_1 : decode cX8_multiplies 1 = .ok (.lstore_n 2, 1) := by decide +kernel
theorem dX8_multiplies_2 : decode cX8_multiplies 2 = .ok (.iconst 0, 1) := by decide +kernel
theorem dX8_multiplies_3 : decode cX8_multiplies 3 = .ok (.istore 4, 2) := by decide +kernel
theorem dX8_multiplies_5 : decode cX8_multiplies 5 = .ok (.iload 4, 2) := by decide +kernel
theorem dX8_multiplies_7 : decode cX8_multiplies 7 = .ok (.bipush 40, 2) := by decide +kernel
theorem dX8_multiplies_9 : decode cX8_multiplies 9 = .ok (.if_icmp .ge 36, 3) := by decide +kernel
theorem dX8_multiplies_12 : decode cX8_multiplies 12 = .ok (.lload_n 2, 1) := by decide +kernel
theorem dX8_multiplies_13 : decode cX8_multiplies 13 = .ok (.aload_n 0, 1) := by decide +kernel
theorem dX8_multiplies_14 : decode cX8_multiplies 14 = .ok (.iload 4, 2) := by decide +kernel
theorem dX8_multiplies_16 : decode cX8_multiplies 16 = .ok (.iaload, 1) := by decide +kernel
theorem dX8_multiplies_17 : decode cX8_multiplies 17 = .ok (.i2l, 1) := by decide +kernel
theorem dX8_multiplies_18 : decode cX8_multiplies 18 = .ok (.iload_n 1, 1) := by decide +kernel
theorem dX8_multiplies_19 : decode cX8_multiplies 19 = .ok (.i2l, 1) := by decide +kernel
theorem dX8_multiplies_20 : decode cX8_multiplies 20 = .ok (.lmul, 1) := by decide +kernel
theorem dX8_multiplies_21 : decode cX8_multiplies 21 = .ok (.ladd, 1) := by decide +kernel
theorem dX8_multiplies_22 : decode cX8_multiplies 22 = .ok (.lstore_n 2, 1) := by decide +kernel
theorem dX8_multiplies_23 : decode cX8_multiplies 23 = .ok (.aload_n 0, 1) := by decide +kernel
theorem dX8_multiplies_24 : decode cX8_multiplies 24 = .ok (.iload 4, 2) := by decide +kernel
theorem dX8_multiplies_26 : decode cX8_multiplies 26 = .ok (.lload_n 2, 1) := by decide +kernel
theorem dX8_multiplies_27 : decode cX8_multiplies 27 = .ok (.ldc2_w 234, 3) := by decide +kernel
theorem dX8_multiplies_30 : decode cX8_multiplies 30 = .ok (.lrem, 1) := by decide +kernel
theorem dX8_multiplies_31 : decode cX8_multiplies 31 = .ok (.l2i, 1) := by decide +kernel
theorem dX8_multiplies_32 : decode cX8_multiplies 32 = .ok (.iastore, 1) := by decide +kernel
theorem dX8_multiplies_33 : decode cX8_multiplies 33 = .ok (.lload_n 2, 1) := by decide +kernel
theorem dX8_multiplies_34 : decode cX8_multiplies 34 = .ok (.ldc2_w 234, 3) := by decide +kernel
theorem dX8_multiplies_37 : decode cX8_multiplies 37 = .ok (.ldiv, 1) := by decide +kernel
theorem dX8_multiplies_38 : decode cX8_multiplies 38 = .ok (.lstore_n 2, 1) := by decide +kernel
theorem dX8_multiplies_39 : decode cX8_multiplies 39 = .ok (.iinc 4 1, 3) := by decide +kernel
theorem dX8_multiplies_42 : decode cX8_multiplies 42 = .ok (.goto (-37), 3) := by decide +kernel
theorem dX8_multiplies_45 : decode cX8_multiplies 45 = .ok (.return_, 1) := by decide +kernel
theorem dX8_ways_0 : decode cX8_ways 0 = .ok (.aload_n 0, 1) := by decide +kernel
theorem dX8_ways_1 : decode cX8_ways 1 = .ok (.iconst 0, 1) := by decide +kernel
theorem dX8_ways_2 : decode cX8_ways 2 = .ok (.putfield 137, 3) := by decide +kernel
theorem dX8_ways_5 : decode cX8_ways 5 = .ok (.iload_n 1, 1) := by decide +kernel
theorem dX8_ways_6 : decode cX8_ways 6 = .ok (.i2l, 1) := by decide +kernel
theorem dX8_ways_7 : decode cX8_ways 7 = .ok (.lconst 0, 1) := by decide +kernel
theorem dX8_ways_8 : decode cX8_ways 8 = .ok (.ldc2_w 236, 3) := by decide +kernel
theorem dX8_ways_11 : decode cX8_ways 11 = .ok (.invokestatic 142, 3) := by decide +kernel
theorem dX8_ways_14 : decode cX8_ways 14 = .ok (.ifCond .ne 6, 3) := by decide +kernel
theorem dX8_ways_17 : decode cX8_ways 17 = .ok (.bipush (-2), 2) := by decide +kernel
theorem dX8_ways_19 : decode cX8_ways 19 = .ok (.ireturn, 1) := by decide +kernel
theorem dX8_ways_20 : decode cX8_ways 20 = .ok (.iconst 0, 1) := by decide +kernel
theorem dX8_ways_21 : decode cX8_ways 21 = .ok (.istore_n 2, 1) := by decide +kernel
theorem dX8_ways_22 : decode cX8_ways 22 = .ok (.iload_n 2, 1) := by decide +kernel
theorem dX8_ways_23 : decode cX8_ways 23 = .ok (.bipush 40, 2) := by decide +kernel
theorem dX8_ways_25 : decode cX8_ways 25 = .ok (.if_icmp .ge 23, 3) := by decide +kernel
theorem dX8_ways_28 : decode cX8_ways 28 = .ok (.aload_n 0, 1) := by decide +kernel
theorem dX8_ways_29 : decode cX8_ways 29 = .ok (.getfield 122, 3) := by decide +kernel
theorem dX8_ways_32 : decode cX8_ways 32 = .ok (.iload_n 2, 1) := by decide +kernel
theorem dX8_ways_33 : decode cX8_ways 33 = .ok (.iconst 0, 1) := by decide +kernel
theorem dX8_ways_34 : decode cX8_ways 34 = .ok (.iastore, 1) := by decide +kernel
theorem dX8_ways_35 : decode cX8_ways 35 = .ok (.aload_n 0, 1) := by decide +kernel
theorem dX8_ways_36 : decode cX8_ways 36 = .ok (.getfield 125, 3) := by decide +kernel
theorem dX8_ways_39 : decode cX8_ways 39 = .ok (.iload_n 2, 1) := by decide +kernel
theorem dX8_ways_40 : decode cX8_ways 40 = .ok (.iconst 0, 1) := by decide +kernel
theorem dX8_ways_41 : decode cX8_ways 41 = .ok (.iastore, 1) := by decide +kernel
theorem dX8_ways_42 : decode cX8_ways 42 = .ok (.iinc 2 1, 3) := by decide +kernel
theorem dX8_ways_45 : decode cX8_ways 45 = .ok (.goto (-23), 3) := by decide +kernel
theorem dX8_ways_48 : decode cX8_ways 48 = .ok (.iconst 1, 1) := by decide +kernel
theorem dX8_ways_49 : decode cX8_ways 49 = .ok (.aload_n 0, 1) := by decide +kernel
theorem dX8_ways_50 : decode cX8_ways 50 = .ok (.getfield 154, 3) := by decide +kernel
theorem dX8_ways_53 : decode cX8_ways 53 = .ok (.ishl, 1) := by decide +kernel
theorem dX8_ways_54 : decode cX8_ways 54 = .ok (.iconst 1, 1) := by decide +kernel
theorem dX8_ways_55 : decode cX8_ways 55 = .ok (.isub, 1) := by decide +kernel
theorem dX8_ways_56 : decode cX8_ways 56 = .ok (.istore_n 2, 1) := by decide +kernel
theorem dX8_ways_57 : decode cX8_ways 57 = .ok (.iconst 0, 1) := by decide +kernel
theorem dX8_ways_58 : decode cX8_ways 58 = .ok (.istore_n 3, 1) := by decide +kernel
theorem dX8_ways_59 : decode cX8_ways 59 = .ok (.iload_n 3, 1) := by decide +kernel
theorem dX8_ways_60 : decode cX8_ways 60 = .ok (.iload_n 2, 1) := by decide +kernel
theorem dX8_ways_61 : decode cX8_ways 61 = .ok (.if_icmp .gt 20, 3) := by decide +kernel
theorem dX8_ways_64 : decode cX8_ways 64 = .ok (.aload_n 0, 1) := by decide +kernel
theorem dX8_ways_65 : decode cX8_ways 65 = .ok (.getfield 119, 3) := by decide +kernel
theorem dX8_ways_68 : decode cX8_ways 68 = .ok (.iload_n 3, 1) := by decide +kernel
theorem dX8_ways_69 : decode cX8_ways 69 = .ok (.aload_n 0, 1) := by decide +kernel
theorem dX8_ways_70 : decode cX8_ways 70 = .ok (.iload_n 3, 1) := by decide +kernel
theorem dX8_ways_71 : decode cX8_ways 71 = .ok (.invokevirtual 193, 3) := by decide +kernel
theorem dX8_ways_74 : decode cX8_ways 74 = .ok (.bastore, 1) := by decide +kernel
theorem dX8_ways_75 : decode cX8_ways 75 = .ok (.iinc 3 1, 3) := by decide +kernel
theorem dX8_ways_78 : decode cX8_ways 78 = .ok (.goto (-19), 3) := by decide +kernel
theorem dX8_ways_81 : decode cX8_ways 81 = .ok (.iconst 0, 1) := by decide +kernel
theorem dX8_ways_82 : decode cX8_ways 82 = .ok (.istore_n 3, 1) := by decide +kernel
theorem dX8_ways_83 : decode cX8_ways 83 = .ok (.iload_n 3, 1) := by decide +kernel
theorem dX8_ways_84 : decode cX8_ways 84 = .ok (.iload_n 2, 1) := by decide +kernel
theorem dX8_ways_85 : decode cX8_ways 85 = .ok (.if_icmp .gt 188, 3) := by decide +kernel
theorem dX8_ways_88 : decode cX8_ways 88 = .ok (.iconst 0, 1) := by decide +kernel
theorem dX8_ways_89 : decode cX8_ways 89 = .ok (.istore 4, 2) := by decide +kernel
theorem dX8_ways_91 : decode cX8_ways 91 = .ok (.iload_n 3, 1) := by decide +kernel
theorem dX8_ways_92 : decode cX8_ways 92 = .ok (.istore 5, 2) := by decide +kernel
theorem dX8_ways_94 : decode cX8_ways 94 = .ok (.iload 5, 2) := by decide +kernel
theorem dX8_ways_96 : decode cX8_ways 96 = .ok (.ifCond .lt 43, 3) := by decide +kernel
theorem dX8_ways_99 : decode cX8_ways 99 = .ok (.iload 4, 2) := by decide +kernel
theorem dX8_ways_101 : decode cX8_ways 101 = .ok (.aload_n 0, 1) := by decide +kernel
theorem dX8_ways_102 : decode cX8_ways 102 = .ok (.getfield 119, 3) := by decide +kernel
theorem dX8_ways_105 : decode cX8_ways 105 = .ok (.iload 5, 2) := by decide +kernel
theorem dX8_ways_107 : decode cX8_ways 107 = .ok (.baload, 1) := by decide +kernel
theorem dX8_ways_108 : decode cX8_ways 108 = .ok (.ifCond .eq 7, 3) := by decide +kernel
theorem dX8_ways_111 : decode cX8_ways 111 = .ok (.iconst 1, 1) := by decide +kernel
theorem dX8_ways_112 : decode cX8_ways 112 = .ok (.goto 4, 3) := by decide +kernel
theorem dX8_ways_115 : decode cX8_ways 115 = .ok (.iconst 0, 1) := by decide +kernel
theorem dX8_ways_116 : decode cX8_ways 116 = .ok (.iadd, 1) := by decide +kernel
theorem dX8_ways_117 : decode cX8_ways 117 = .ok (.istore 4, 2) := by decide +kernel
theorem dX8_ways_119 : decode cX8_ways 119 = .ok (.iload 5, 2) := by decide +kernel
theorem dX8_ways_121 : decode cX8_ways 121 = .ok (.ifCond .ne 7, 3) := by decide +kernel
theorem dX8_ways_124 : decode cX8_ways 124 = .ok (.iconst (-1), 1) := by decide +kernel
theorem dX8_ways_125 : decode cX8_ways 125 = .ok (.goto 9, 3) := by decide +kernel
theorem dX8_ways_128 : decode cX8_ways 128 = .ok (.iload 5, 2) := by decide +kernel
theorem dX8_ways_130 : decode cX8_ways 130 = .ok (.iconst 1, 1) := by decide +kernel
theorem dX8_ways_131 : decode cX8_ways 131 = .ok (.isub, 1) := by decide +kernel
theorem dX8_ways_132 : decode cX8_ways 132 = .ok (.iload_n 3, 1) := by decide +kernel
theorem dX8_ways_133 : decode cX8_ways 133 = .ok (.iand, 1) := by decide +kernel
theorem dX8_ways_134 : decode cX8_ways 134 = .ok (.istore 5, 2) := by decide +kernel
theorem dX8_ways_136 : decode cX8_ways 136 = .ok (.goto (-42), 3) := by decide +kernel
theorem dX8_ways_139 : decode cX8_ways 139 = .ok (.iconst 0, 1) := by decide +kernel
theorem dX8_ways_140 : decode cX8_ways 140 = .ok (.istore 5, 2) := by decide +kernel
theorem dX8_ways_142 : decode cX8_ways 142 = .ok (.iload 5, 2) := by decide +kernel
theorem dX8_ways_144 : decode cX8_ways 144 = .ok (.bipush 40, 2) := by decide +kernel
theorem dX8_ways_146 : decode cX8_ways 146 = .ok (.if_icmp .ge 26, 3) := by decide +kernel
theorem dX8_ways_149 : decode cX8_ways 149 = .ok (.aload_n 0, 1) := by decide +kernel
theorem dX8_ways_150 : decode cX8_ways 150 = .ok (.getfield 128, 3) := by decide +kernel
theorem dX8_ways_153 : decode cX8_ways 153 = .ok (.iload 5, 2) := by decide +kernel
theorem dX8_ways_155 : decode cX8_ways 155 = .ok (.iload 5, 2) := by decide +kernel
theorem dX8_ways_157 : decode cX8_ways 157 = .ok (.ifCond .ne 7, 3) := by decide +kernel
theorem dX8_ways_160 : decode cX8_ways 160 = .ok (.iconst 1, 1) := by decide +kernel
theorem dX8_ways_161 : decode cX8_ways 161 = .ok (.goto 4, 3) := by decide +kernel
theorem dX8_ways_164 : decode cX8_ways 164 = .ok (.iconst 0, 1) := by decide +kernel
theorem dX8_ways_165 : decode cX8_ways 165 = .ok (.iastore, 1) := by decide +kernel
theorem dX8_ways_166 : decode cX8_ways 166 = .ok (.iinc 5 1, 3) := by decide +kernel
theorem dX8_ways_169 : decode cX8_ways 169 = .ok (.goto (-27), 3) := by decide +kernel
theorem dX8_ways_172 : decode cX8_ways 172 = .ok (.iconst 0, 1) := by decide +kernel
theorem dX8_ways_173 : decode cX8_ways 173 = .ok (.istore 5, 2) := by decide +kernel
theorem dX8_ways_175 : decode cX8_ways 175 = .ok (.iload 5, 2) := by decide +kernel
theorem dX8_ways_177 : decode cX8_ways 177 = .ok (.iload_n 1, 1) := by decide +kernel
theorem dX8_ways_178 : decode cX8_ways 178 = .ok (.if_icmp .ge 18, 3) := by decide +kernel
theorem dX8_ways_181 : decode cX8_ways 181 = .ok (.aload_n 0, 1) := by decide +kernel
theorem dX8_ways_182 : decode cX8_ways 182 = .ok (.getfield 128, 3) := by decide +kernel
theorem dX8_ways_185 : decode cX8_ways 185 = .ok (.iload 4, 2) := by decide +kernel
theorem dX8_ways_187 : decode cX8_ways 187 = .ok (.invokestatic 238, 3) := by decide +kernel
theorem dX8_ways_190 : decode cX8_ways 190 = .ok (.iinc 5 1, 3) := by decide +kernel
theorem dX8_ways_193 : decode cX8_ways 193 = .ok (.goto (-18), 3) := by decide +kernel
theorem dX8_ways_196 : decode cX8_ways 196 = .ok (.iconst 0, 1) := by decide +kernel
theorem dX8_ways_197 : decode cX8_ways 197 = .ok (.istore 5, 2) := by decide +kernel
theorem dX8_ways_199 : decode cX8_ways 199 = .ok (.iconst 0, 1) := by decide +kernel
theorem dX8_ways_200 : decode cX8_ways 200 = .ok (.istore 6, 2) := by decide +kernel
theorem dX8_ways_202 : decode cX8_ways 202 = .ok (.iload 6, 2) := by decide +kernel
theorem dX8_ways_204 : decode cX8_ways 204 = .ok (.aload_n 0, 1) := by decide +kernel
theorem dX8_ways_205 : decode cX8_ways 205 = .ok (.getfield 154, 3) := by decide +kernel
theorem dX8_ways_208 : decode cX8_ways 208 = .ok (.if_icmp .ge 36, 3) := by decide +kernel
theorem dX8_ways_211 : decode cX8_ways 211 = .ok (.iload_n 3, 1) := by decide +kernel
theorem dX8_ways_212 : decode cX8_ways 212 = .ok (.iload 6, 2) := by decide +kernel
theorem dX8_ways_214 : decode cX8_ways 214 = .ok (.ishr, 1) := by decide +kernel
theorem dX8_ways_215 : decode cX8_ways 215 = .ok (.iconst 1, 1) := by decide +kernel
theorem dX8_ways_216 : decode cX8_ways 216 = .ok (.iand, 1) := by decide +kernel
theorem dX8_ways_217 : decode cX8_ways 217 = .ok (.iconst 1, 1) := by decide +kernel
theorem dX8_ways_218 : decode cX8_ways 218 = .ok (.if_icmp .ne 8, 3) := by decide +kernel
theorem dX8_ways_221 : decode cX8_ways 221 = .ok (.iload 5, 2) := by decide +kernel
theorem dX8_ways_223 : decode cX8_ways 223 = .ok (.goto 13, 3) := by decide +kernel
theorem dX8_ways_226 : decode cX8_ways 226 = .ok (.iload 5, 2) := by decide +kernel
theorem dX8_ways_228 : decode cX8_ways 228 = .ok (.ifCond .ne 7, 3) := by decide +kernel
theorem dX8_ways_231 : decode cX8_ways 231 = .ok (.iconst 1, 1) := by decide +kernel
theorem dX8_ways_232 : decode cX8_ways 232 = .ok (.goto 4, 3) := by decide +kernel
theorem dX8_ways_235 : decode cX8_ways 235 = .ok (.iconst 0, 1) := by decide +kernel
theorem dX8_ways_236 : decode cX8_ways 236 = .ok (.istore 5, 2) := by decide +kernel
theorem dX8_ways_238 : decode cX8_ways 238 = .ok (.iinc 6 1, 3) := by decide +kernel
theorem dX8_ways_241 : decode cX8_ways 241 = .ok (.goto (-39), 3) := by decide +kernel
theorem dX8_ways_244 : decode cX8_ways 244 = .ok (.iload 5, 2) := by decide +kernel
theorem dX8_ways_246 : decode cX8_ways 246 = .ok (.ifCond .eq 10, 3) := by decide +kernel
theorem dX8_ways_249 : decode cX8_ways 249 = .ok (.aload_n 0, 1) := by decide +kernel
theorem dX8_ways_250 : decode cX8_ways 250 = .ok (.getfield 125, 3) := by decide +kernel
theorem dX8_ways_253 : decode cX8_ways 253 = .ok (.goto 7, 3) := by decide +kernel
theorem dX8_ways_256 : decode cX8_ways 256 = .ok (.aload_n 0, 1) := by decide +kernel
theorem dX8_ways_257 : decode cX8_ways 257 = .ok (.getfield 122, 3) := by decide +kernel
theorem dX8_ways_260 : decode cX8_ways 260 = .ok (.aload_n 0, 1) := by decide +kernel
theorem dX8_ways_261 : decode cX8_ways 261 = .ok (.getfield 128, 3) := by decide +kernel
theorem dX8_ways_264 : decode cX8_ways 264 = .ok (.invokestatic 242, 3) := by decide +kernel
theorem dX8_ways_267 : decode cX8_ways 267 = .ok (.iinc 3 1, 3) := by decide +kernel
theorem dX8_ways_270 : decode cX8_ways 270 = .ok (.goto (-187), 3) := by decide +kernel
theorem dX8_ways_273 : decode cX8_ways 273 = .ok (.iconst 0, 1) := by decide +kernel
theorem dX8_ways_274 : decode cX8_ways 274 = .ok (.istore_n 3, 1) := by decide +kernel
theorem dX8_ways_275 : decode cX8_ways 275 = .ok (.aload_n 0, 1) := by decide +kernel
theorem dX8_ways_276 : decode cX8_ways 276 = .ok (.iconst 1, 1) := by decide +kernel
theorem dX8_ways_277 : decode cX8_ways 277 = .ok (.putfield 246, 3) := by decide +kernel
theorem dX8_ways_280 : decode cX8_ways 280 = .ok (.iconst 0, 1) := by decide +kernel
theorem dX8_ways_281 : decode cX8_ways 281 = .ok (.istore 4, 2) := by decide +kernel
theorem dX8_ways_283 : decode cX8_ways 283 = .ok (.iload 4, 2) := by decide +kernel
theorem dX8_ways_285 : decode cX8_ways 285 = .ok (.bipush 40, 2) := by decide +kernel
theorem dX8_ways_287 : decode cX8_ways 287 = .ok (.if_icmp .ge 111, 3) := by decide +kernel
theorem dX8_ways_290 : decode cX8_ways 290 = .ok (.aload_n 0, 1) := by decide +kernel
theorem dX8_ways_291 : decode cX8_ways 291 = .ok (.getfield 122, 3) := by decide +kernel
theorem dX8_ways_294 : decode cX8_ways 294 = .ok (.iload 4, 2) := by decide +kernel
theorem dX8_ways_296 : decode cX8_ways 296 = .ok (.iaload, 1) := by decide +kernel
theorem dX8_ways_297 : decode cX8_ways 297 = .ok (.aload_n 0, 1) := by decide +kernel
theorem dX8_ways_298 : decode cX8_ways 298 = .ok (.getfield 125, 3) := by decide +kernel
theorem dX8_ways_301 : decode cX8_ways 301 = .ok (.iload 4, 2) := by decide +kernel
theorem dX8_ways_303 : decode cX8_ways 303 = .ok (.iaload, 1) := by decide +kernel
theorem dX8_ways_304 : decode cX8_ways 304 = .ok (.isub, 1) := by decide +kernel
theorem dX8_ways_305 : decode cX8_ways 305 = .ok (.iload_n 3, 1) := by decide +kernel
theorem dX8_ways_306 : decode cX8_ways 306 = .ok (.isub, 1) := by decide +kernel
theorem dX8_ways_307 : decode cX8_ways 307 = .ok (.istore 5, 2) := by decide +kernel
theorem dX8_ways_309 : decode cX8_ways 309 = .ok (.iload 5, 2) := by decide +kernel
theorem dX8_ways_311 : decode cX8_ways 311 = .ok (.ifCond .ge 7, 3) := by decide +kernel
theorem dX8_ways_314 : decode cX8_ways 314 = .ok (.iconst 1, 1) := by decide +kernel
theorem dX8_ways_315 : decode cX8_ways 315 = .ok (.goto 4, 3) := by decide +kernel
theorem dX8_ways_318 : decode cX8_ways 318 = .ok (.iconst 0, 1) := by decide +kernel
theorem dX8_ways_319 : decode cX8_ways 319 = .ok (.istore_n 3, 1) := by decide +kernel
theorem dX8_ways_320 : decode cX8_ways 320 = .ok (.iload 5, 2) := by decide +kernel
theorem dX8_ways_322 : decode cX8_ways 322 = .ok (.iload_n 3, 1) := by decide +kernel
theorem dX8_ways_323 : decode cX8_ways 323 = .ok (.ldc 249, 2) := by decide +kernel
theorem dX8_ways_325 : decode cX8_ways 325 = .ok (.imul, 1) := by decide +kernel
theorem dX8_ways_326 : decode cX8_ways 326 = .ok (.iadd, 1) := by decide +kernel
theorem dX8_ways_327 : decode cX8_ways 327 = .ok (.istore 5, 2) := by decide +kernel
theorem dX8_ways_329 : decode cX8_ways 329 = .ok (.iconst 0, 1) := by decide +kernel
theorem dX8_ways_330 : decode cX8_ways 330 = .ok (.istore 6, 2) := by decide +kernel
theorem dX8_ways_332 : decode cX8_ways 332 = .ok (.iload 6, 2) := by decide +kernel
theorem dX8_ways_334 : decode cX8_ways 334 = .ok (.bipush 9, 2) := by decide +kernel
theorem dX8_ways_336 : decode cX8_ways 336 = .ok (.if_icmp .ge 56, 3) := by decide +kernel
theorem dX8_ways_339 : decode cX8_ways 339 = .ok (.aload_n 0, 1) := by decide +kernel
theorem dX8_ways_340 : decode cX8_ways 340 = .ok (.getfield 131, 3) := by decide +kernel
theorem dX8_ways_343 : decode cX8_ways 343 = .ok (.bipush 9, 2) := by decide +kernel
theorem dX8_ways_345 : decode cX8_ways 345 = .ok (.iload 4, 2) := by decide +kernel
theorem dX8_ways_347 : decode cX8_ways 347 = .ok (.imul, 1) := by decide +kernel
theorem dX8_ways_348 : decode cX8_ways 348 = .ok (.iload 6, 2) := by decide +kernel
theorem dX8_ways_350 : decode cX8_ways 350 = .ok (.iadd, 1) := by decide +kernel
theorem dX8_ways_351 : decode cX8_ways 351 = .ok (.iload 5, 2) := by decide +kernel
theorem dX8_ways_353 : decode cX8_ways 353 = .ok (.bipush 10, 2) := by decide +kernel
theorem dX8_ways_355 : decode cX8_ways 355 = .ok (.irem, 1) := by decide +kernel
theorem dX8_ways_356 : decode cX8_ways 356 = .ok (.iastore, 1) := by decide +kernel
theorem dX8_ways_357 : decode cX8_ways 357 = .ok (.iload 5, 2) := by decide +kernel
theorem dX8_ways_359 : decode cX8_ways 359 = .ok (.bipush 10, 2) := by decide +kernel
theorem dX8_ways_361 : decode cX8_ways 361 = .ok (.irem, 1) := by decide +kernel
theorem dX8_ways_362 : decode cX8_ways 362 = .ok (.ifCond .le 17, 3) := by decide +kernel
theorem dX8_ways_365 : decode cX8_ways 365 = .ok (.aload_n 0, 1) := by decide +kernel
theorem dX8_ways_366 : decode cX8_ways 366 = .ok (.bipush 9, 2) := by decide +kernel
theorem dX8_ways_368 : decode cX8_ways 368 = .ok (.iload 4, 2) := by decide +kernel
theorem dX8_ways_370 : decode cX8_ways 370 = .ok (.imul, 1) := by decide +kernel
theorem dX8_ways_371 : decode cX8_ways 371 = .ok (.iload 6, 2) := by decide +kernel
theorem dX8_ways_373 : decode cX8_ways 373 = .ok (.iadd, 1) := by decide +kernel
theorem dX8_ways_374 : decode cX8_ways 374 = .ok (.iconst 1, 1) := by decide +kernel
theorem dX8_ways_375 : decode cX8_ways 375 = .ok (.iadd, 1) := by decide +kernel
theorem dX8_ways_376 : decode cX8_ways 376 = .ok (.putfield 246, 3) := by decide +kernel
theorem dX8_ways_379 : decode cX8_ways 379 = .ok (.iload 5, 2) := by decide +kernel
theorem dX8_ways_381 : decode cX8_ways 381 = .ok (.bipush 10, 2) := by decide +kernel
theorem dX8_ways_383 : decode cX8_ways 383 = .ok (.idiv, 1) := by decide +kernel
theorem dX8_ways_384 : decode cX8_ways 384 = .ok (.istore 5, 2) := by decide +kernel
theorem dX8_ways_386 : decode cX8_ways 386 = .ok (.iinc 6 1, 3) := by decide +kernel
theorem dX8_ways_389 : decode cX8_ways 389 = .ok (.goto (-57), 3) := by decide +kernel
theorem dX8_ways_392 : decode cX8_ways 392 = .ok (.iinc 4 1, 3) := by decide +kernel
theorem dX8_ways_395 : decode cX8_ways 395 = .ok (.goto (-112), 3) := by decide +kernel
theorem dX8_ways_398 : decode cX8_ways 398 = .ok (.aload_n 0, 1) := by decide +kernel
theorem dX8_ways_399 : decode cX8_ways 399 = .ok (.getfield 246, 3) := by decide +kernel
theorem dX8_ways_402 : decode cX8_ways 402 = .ok (.ireturn, 1) := by decide +kernel
theorem dX8_digit_0 : decode cX8_digit 0 = .ok (.aload_n 0, 1) := by decide +kernel
theorem dX8_digit_1 : decode cX8_digit 1 = .ok (.iconst 0, 1) := by decide +kernel
theorem dX8_digit_2 : decode cX8_digit 2 = .ok (.putfield 137, 3) := by decide +kernel
theorem dX8_digit_5 : decode cX8_digit 5 = .ok (.iload_n 1, 1) := by decide +kernel
theorem dX8_digit_6 : decode cX8_digit 6 = .ok (.ifCond .ge 8, 3) := by decide +kernel
theorem dX8_digit_9 : decode cX8_digit 9 = .ok (.bipush (-2), 2) := by decide +kernel
theorem dX8_digit_11 : decode cX8_digit 11 = .ok (.goto 21, 3) := by decide +kernel
theorem dX8_digit_14 : decode cX8_digit 14 = .ok (.iload_n 1, 1) := by decide +kernel
theorem dX8_digit_15 : decode cX8_digit 15 = .ok (.aload_n 0, 1) := by decide +kernel
theorem dX8_digit_16 : decode cX8_digit 16 = .ok (.getfield 246, 3) := by decide +kernel
theorem dX8_digit_19 : decode cX8_digit 19 = .ok (.if_icmp .ge 12, 3) := by decide +kernel
theorem dX8_digit_22 : decode cX8_digit 22 = .ok (.aload_n 0, 1) := by decide +kernel
theorem dX8_digit_23 : decode cX8_digit 23 = .ok (.getfield 131, 3) := by decide +kernel
theorem dX8_digit_26 : decode cX8_digit 26 = .ok (.iload_n 1, 1) := by decide +kernel
theorem dX8_digit_27 : decode cX8_digit 27 = .ok (.iaload, 1) := by decide +kernel
theorem dX8_digit_28 : decode cX8_digit 28 = .ok (.goto 4, 3) := by decide +kernel
theorem dX8_digit_31 : decode cX8_digit 31 = .ok (.iconst 0, 1) := by decide +kernel
theorem dX8_digit_32 : decode cX8_digit 32 = .ok (.ireturn, 1) := by decide +kernel
theorem dX8_rule_0 : decode cX8_rule 0 = .ok (.aload_n 0, 1) := by decide +kernel
theorem dX8_rule_1 : decode cX8_rule 1 = .ok (.iconst 0, 1) := by decide +kernel
theorem dX8_rule_2 : decode cX8_rule 2 = .ok (.putfield 137, 3) := by decide +kernel
theorem dX8_rule_5 : decode cX8_rule 5 = .ok (.iload_n 1, 1) := by decide +kernel
theorem dX8_rule_6 : decode cX8_rule 6 = .ok (.i2l, 1) := by decide +kernel
theorem dX8_rule_7 : decode cX8_rule 7 = .ok (.lconst 0, 1) := by decide +kernel
theorem dX8_rule_8 : decode cX8_rule 8 = .ok (.lconst 1, 1) := by decide +kernel
theorem dX8_rule_9 : decode cX8_rule 9 = .ok (.invokestatic 142, 3) := by decide +kernel
theorem dX8_rule_12 : decode cX8_rule 12 = .ok (.ifCond .ne 6, 3) := by decide +kernel
theorem dX8_rule_15 : decode cX8_rule 15 = .ok (.bipush (-2), 2) := by decide +kernel
theorem dX8_rule_17 : decode cX8_rule 17 = .ok (.ireturn, 1) := by decide +kernel
theorem dX8_rule_18 : decode cX8_rule 18 = .ok (.aload_n 0, 1) := by decide +kernel
theorem dX8_rule_19 : decode cX8_rule 19 = .ok (.getfield 250, 3) := by decide +kernel
theorem dX8_rule_22 : decode cX8_rule 22 = .ok (.istore_n 2, 1) := by decide +kernel
theorem dX8_rule_23 : decode cX8_rule 23 = .ok (.aload_n 0, 1) := by decide +kernel
theorem dX8_rule_24 : decode cX8_rule 24 = .ok (.iload_n 1, 1) := by decide +kernel
theorem dX8_rule_25 : decode cX8_rule 25 = .ok (.putfield 250, 3) := by decide +kernel
theorem dX8_rule_28 : decode cX8_rule 28 = .ok (.iload_n 2, 1) := by decide +kernel
theorem dX8_rule_29 : decode cX8_rule 29 = .ok (.ireturn, 1) := by decide +kernel
theorem dX8_waiting_0 : decode cX8_waiting 0 = .ok (.iconst 0, 1) := by decide +kernel
theorem dX8_waiting_1 : decode cX8_waiting 1 = .ok (.istore_n 2, 1) := by decide +kernel
theorem dX8_waiting_2 : decode cX8_waiting 2 = .ok (.iconst 0, 1) := by decide +kernel
theorem dX8_waiting_3 : decode cX8_waiting 3 = .ok (.istore_n 3, 1) := by decide +kernel
theorem dX8_waiting_4 : decode cX8_waiting 4 = .ok (.iload_n 3, 1) := by decide +kernel
theorem dX8_waiting_5 : decode cX8_waiting 5 = .ok (.bipush 21, 2) := by decide +kernel
theorem dX8_waiting_7 : decode cX8_waiting 7 = .ok (.if_icmp .ge 23, 3) := by decide +kernel
theorem dX8_waiting_10 : decode cX8_waiting 10 = .ok (.iload_n 2, 1) := by decide +kernel
theorem dX8_waiting_11 : decode cX8_waiting 11 = .ok (.aload_n 0, 1) := by decide +kernel
theorem dX8_waiting_12 : decode cX8_waiting 12 = .ok (.getfield 85, 3) := by decide +kernel
theorem dX8_waiting_15 : decode cX8_waiting 15 = .ok (.bipush 21, 2) := by decide +kernel
theorem dX8_waiting_17 : decode cX8_waiting 17 = .ok (.iload_n 1, 1) := by decide +kernel
theorem dX8_waiting_18 : decode cX8_waiting 18 = .ok (.imul, 1) := by decide +kernel
theorem dX8_waiting_19 : decode cX8_waiting 19 = .ok (.iload_n 3, 1) := by decide +kernel
theorem dX8_waiting_20 : decode cX8_waiting 20 = .ok (.iadd, 1) := by decide +kernel
theorem dX8_waiting_21 : decode cX8_waiting 21 = .ok (.iaload, 1) := by decide +kernel
theorem dX8_waiting_22 : decode cX8_waiting 22 = .ok (.iadd, 1) := by decide +kernel
theorem dX8_waiting_23 : decode cX8_waiting 23 = .ok (.istore_n 2, 1) := by decide +kernel
theorem dX8_waiting_24 : decode cX8_waiting 24 = .ok (.iinc 3 1, 3) := by decide +kernel
theorem dX8_waiting_27 : decode cX8_waiting 27 = .ok (.goto (-23), 3) := by decide +kernel
theorem dX8_waiting_30 : decode cX8_waiting 30 = .ok (.iload_n 2, 1) := by decide +kernel
theorem dX8_waiting_31 : decode cX8_waiting 31 = .ok (.ireturn, 1) := by decide +kernel
theorem dX8_byFrame_0 : decode cX8_byFrame 0 = .ok (.aload_n 0, 1) := by decide +kernel
theorem dX8_byFrame_1 : decode cX8_byFrame 1 = .ok (.getfield 199, 3) := by decide +kernel
theorem dX8_byFrame_4 : decode cX8_byFrame 4 = .ok (.ifCond .ne 7, 3) := by decide +kernel
theorem dX8_byFrame_7 : decode cX8_byFrame 7 = .ok (.iconst 0, 1) := by decide +kernel
theorem dX8_byFrame_8 : decode cX8_byFrame 8 = .ok (.goto 17, 3) := by decide +kernel
theorem dX8_byFrame_11 : decode cX8_byFrame 11 = .ok (.aload_n 0, 1) := by decide +kernel
theorem dX8_byFrame_12 : decode cX8_byFrame 12 = .ok (.getfield 82, 3) := by decide +kernel
theorem dX8_byFrame_15 : decode cX8_byFrame 15 = .ok (.aload_n 0, 1) := by decide +kernel
theorem dX8_byFrame_16 : decode cX8_byFrame 16 = .ok (.getfield 253, 3) := by decide +kernel
theorem dX8_byFrame_19 : decode cX8_byFrame 19 = .ok (.aload_n 0, 1) := by decide +kernel
theorem dX8_byFrame_20 : decode cX8_byFrame 20 = .ok (.getfield 199, 3) := by decide +kernel
theorem dX8_byFrame_23 : decode cX8_byFrame 23 = .ok (.irem, 1) := by decide +kernel
theorem dX8_byFrame_24 : decode cX8_byFrame 24 = .ok (.iaload, 1) := by decide +kernel
theorem dX8_byFrame_25 : decode cX8_byFrame 25 = .ok (.istore_n 1, 1) := by decide +kernel
theorem dX8_byFrame_26 : decode cX8_byFrame 26 = .ok (.bipush 9, 2) := by decide +kernel
theorem dX8_byFrame_28 : decode cX8_byFrame 28 = .ok (.istore_n 2, 1) := by decide +kernel
theorem dX8_byFrame_29 : decode cX8_byFrame 29 = .ok (.iload_n 2, 1) := by decide +kernel
theorem dX8_byFrame_30 : decode cX8_byFrame 30 = .ok (.ifCond .lt 25, 3) := by decide +kernel
theorem dX8_byFrame_33 : decode cX8_byFrame 33 = .ok (.aload_n 0, 1) := by decide +kernel
theorem dX8_byFrame_34 : decode cX8_byFrame 34 = .ok (.iload_n 1, 1) := by decide +kernel
theorem dX8_byFrame_35 : decode cX8_byFrame 35 = .ok (.invokevirtual 193, 3) := by decide +kernel
theorem dX8_byFrame_38 : decode cX8_byFrame 38 = .ok (.ifCond .ne 17, 3) := by decide +kernel
theorem dX8_byFrame_41 : decode cX8_byFrame 41 = .ok (.iload_n 1, 1) := by decide +kernel
theorem dX8_byFrame_42 : decode cX8_byFrame 42 = .ok (.iconst 1, 1) := by decide +kernel
theorem dX8_byFrame_43 : decode cX8_byFrame 43 = .ok (.iload_n 2, 1) := by decide +kernel
theorem dX8_byFrame_44 : decode cX8_byFrame 44 = .ok (.ishl, 1) := by decide +kernel
theorem dX8_byFrame_45 : decode cX8_byFrame 45 = .ok (.iconst (-1), 1) := by decide +kernel
theorem dX8_byFrame_46 : decode cX8_byFrame 46 = .ok (.ixor, 1) := by decide +kernel
theorem dX8_byFrame_47 : decode cX8_byFrame 47 = .ok (.iand, 1) := by decide +kernel
theorem dX8_byFrame_48 : decode cX8_byFrame 48 = .ok (.istore_n 1, 1) := by decide +kernel
theorem dX8_byFrame_49 : decode cX8_byFrame 49 = .ok (.iinc 2 (-1), 3) := by decide +kernel
theorem dX8_byFrame_52 : decode cX8_byFrame 52 = .ok (.goto (-23), 3) := by decide +kernel
theorem dX8_byFrame_55 : decode cX8_byFrame 55 = .ok (.iload_n 1, 1) := by decide +kernel
theorem dX8_byFrame_56 : decode cX8_byFrame 56 = .ok (.ireturn, 1) := by decide +kernel
theorem dX8_byWeight_0 : decode cX8_byWeight 0 = .ok (.iconst 0, 1) := by decide +kernel
theorem dX8_byWeight_1 : decode cX8_byWeight 1 = .ok (.istore_n 1, 1) := by decide +kernel
theorem dX8_byWeight_2 : decode cX8_byWeight 2 = .ok (.lconst 0, 1) := by decide +kernel
theorem dX8_byWeight_3 : decode cX8_byWeight 3 = .ok (.lstore_n 2, 1) := by decide +kernel
theorem dX8_byWeight_4 : decode cX8_byWeight 4 = .ok (.iconst 1, 1) := by decide +kernel
theorem dX8_byWeight_5 : decode cX8_byWeight 5 = .ok (.istore 4, 2) := by decide +kernel
theorem dX8_byWeight_7 : decode cX8_byWeight 7 = .ok (.iload 4, 2) := by decide +kernel
theorem dX8_byWeight_9 : decode cX8_byWeight 9 = .ok (.iconst 1, 1) := by decide +kernel
theorem dX8_byWeight_10 : decode cX8_byWeight 10 = .ok (.aload_n 0, 1) := by decide +kernel
theorem dX8_byWeight_11 : decode cX8_byWeight 11 = .ok (.getfield 154, 3) := by decide +kernel
theorem dX8_byWeight_14 : decode cX8_byWeight 14 = .ok (.ishl, 1) := by decide +kernel
theorem dX8_byWeight_15 : decode cX8_byWeight 15 = .ok (.if_icmp .ge 92, 3) := by decide +kernel
theorem dX8_byWeight_18 : decode cX8_byWeight 18 = .ok (.lconst 0, 1) := by decide +kernel
theorem dX8_byWeight_19 : decode cX8_byWeight 19 = .ok (.lstore 5, 2) := by decide +kernel
theorem dX8_byWeight_21 : decode cX8_byWeight 21 = .ok (.iconst 0, 1) := by decide +kernel
theorem dX8_byWeight_22 : decode cX8_byWeight 22 = .ok (.istore 7, 2) := by decide +kernel
theorem dX8_byWeight_24 : decode cX8_byWeight 24 = .ok (.iload 7, 2) := by decide +kernel
theorem dX8_byWeight_26 : decode cX8_byWeight 26 = .ok (.aload_n 0, 1) := by decide +kernel
theorem dX8_byWeight_27 : decode cX8_byWeight 27 = .ok (.getfield 154, 3) := by decide +kernel
theorem dX8_byWeight_30 : decode cX8_byWeight 30 = .ok (.if_icmp .ge 46, 3) := by decide +kernel
theorem dX8_byWeight_33 : decode cX8_byWeight 33 = .ok (.lload 5, 2) := by decide +kernel
theorem dX8_byWeight_35 : decode cX8_byWeight 35 = .ok (.iload 4, 2) := by decide +kernel
theorem dX8_byWeight_37 : decode cX8_byWeight 37 = .ok (.iload 7, 2) := by decide +kernel
theorem dX8_byWeight_39 : decode cX8_byWeight 39 = .ok (.ishr, 1) := by decide +kernel
theorem dX8_byWeight_40 : decode cX8_byWeight 40 = .ok (.iconst 1, 1) := by decide +kernel
theorem dX8_byWeight_41 : decode cX8_byWeight 41 = .ok (.iand, 1) := by decide +kernel
theorem dX8_byWeight_42 : decode cX8_byWeight 42 = .ok (.iconst 1, 1) := by decide +kernel
theorem dX8_byWeight_43 : decode cX8_byWeight 43 = .ok (.if_icmp .ne 23, 3) := by decide +kernel
theorem dX8_byWeight_46 : decode cX8_byWeight 46 = .ok (.aload_n 0, 1) := by decide +kernel
theorem dX8_byWeight_47 : decode cX8_byWeight 47 = .ok (.getfield 45, 3) := by decide +kernel
theorem dX8_byWeight_50 : decode cX8_byWeight 50 = .ok (.iload 7, 2) := by decide +kernel
theorem dX8_byWeight_52 : decode cX8_byWeight 52 = .ok (.iaload, 1) := by decide +kernel
theorem dX8_byWeight_53 : decode cX8_byWeight 53 = .ok (.i2l, 1) := by decide +kernel
theorem dX8_byWeight_54 : decode cX8_byWeight 54 = .ok (.aload_n 0, 1) := by decide +kernel
theorem dX8_byWeight_55 : decode cX8_byWeight 55 = .ok (.getfield 134, 3) := by decide +kernel
theorem dX8_byWeight_58 : decode cX8_byWeight 58 = .ok (.iload 7, 2) := by decide +kernel
theorem dX8_byWeight_60 : decode cX8_byWeight 60 = .ok (.iaload, 1) := by decide +kernel
theorem dX8_byWeight_61 : decode cX8_byWeight 61 = .ok (.i2l, 1) := by decide +kernel
theorem dX8_byWeight_62 : decode cX8_byWeight 62 = .ok (.lmul, 1) := by decide +kernel
theorem dX8_byWeight_63 : decode cX8_byWeight 63 = .ok (.goto 4, 3) := by decide +kernel
theorem dX8_byWeight_66 : decode cX8_byWeight 66 = .ok (.lconst 0, 1) := by decide +kernel
theorem dX8_byWeight_67 : decode cX8_byWeight 67 = .ok (.ladd, 1) := by decide +kernel
theorem dX8_byWeight_68 : decode cX8_byWeight 68 = .ok (.lstore 5, 2) := by decide +kernel
theorem dX8_byWeight_70 : decode cX8_byWeight 70 = .ok (.iinc 7 1, 3) := by decide +kernel
theorem dX8_byWeight_73 : decode cX8_byWeight 73 = .ok (.goto (-49), 3) := by decide +kernel
theorem dX8_byWeight_76 : decode cX8_byWeight 76 = .ok (.lload 5, 2) := by decide +kernel
theorem dX8_byWeight_78 : decode cX8_byWeight 78 = .ok (.lload_n 2, 1) := by decide +kernel
theorem dX8_byWeight_79 : decode cX8_byWeight 79 = .ok (.lcmp, 1) := by decide +kernel
theorem dX8_byWeight_80 : decode cX8_byWeight 80 = .ok (.ifCond .le 21, 3) := by decide +kernel
theorem dX8_byWeight_83 : decode cX8_byWeight 83 = .ok (.aload_n 0, 1) := by decide +kernel
theorem dX8_byWeight_84 : decode cX8_byWeight 84 = .ok (.iload 4, 2) := by decide +kernel
theorem dX8_byWeight_86 : decode cX8_byWeight 86 = .ok (.invokevirtual 193, 3) := by decide +kernel
theorem dX8_byWeight_89 : decode cX8_byWeight 89 = .ok (.ifCond .ne 6, 3) := by decide +kernel
theorem dX8_byWeight_92 : decode cX8_byWeight 92 = .ok (.goto 9, 3) := by decide +kernel
theorem dX8_byWeight_95 : decode cX8_byWeight 95 = .ok (.lload 5, 2) := by decide +kernel
theorem dX8_byWeight_97 : decode cX8_byWeight 97 = .ok (.lstore_n 2, 1) := by decide +kernel
theorem dX8_byWeight_98 : decode cX8_byWeight 98 = .ok (.iload 4, 2) := by decide +kernel
theorem dX8_byWeight_100 : decode cX8_byWeight 100 = .ok (.istore_n 1, 1) := by decide +kernel
theorem dX8_byWeight_101 : decode cX8_byWeight 101 = .ok (.iinc 4 1, 3) := by decide +kernel
theorem dX8_byWeight_104 : decode cX8_byWeight 104 = .ok (.goto (-97), 3) := by decide +kernel
theorem dX8_byWeight_107 : decode cX8_byWeight 107 = .ok (.iload_n 1, 1) := by decide +kernel
theorem dX8_byWeight_108 : decode cX8_byWeight 108 = .ok (.ireturn, 1) := by decide +kernel
theorem dX8_sends_0 : decode cX8_sends 0 = .ok (.aload_n 0, 1) := by decide +kernel
theorem dX8_sends_1 : decode cX8_sends 1 = .ok (.getfield 134, 3) := by decide +kernel
theorem dX8_sends_4 : decode cX8_sends 4 = .ok (.iload_n 1, 1) := by decide +kernel
theorem dX8_sends_5 : decode cX8_sends 5 = .ok (.iaload, 1) := by decide +kernel
theorem dX8_sends_6 : decode cX8_sends 6 = .ok (.istore_n 2, 1) := by decide +kernel
theorem dX8_sends_7 : decode cX8_sends 7 = .ok (.bipush 20, 2) := by decide +kernel
theorem dX8_sends_9 : decode cX8_sends 9 = .ok (.istore_n 3, 1) := by decide +kernel
theorem dX8_sends_10 : decode cX8_sends 10 = .ok (.iload_n 3, 1) := by decide +kernel
theorem dX8_sends_11 : decode cX8_sends 11 = .ok (.ifCond .lt 59, 3) := by decide +kernel
theorem dX8_sends_14 : decode cX8_sends 14 = .ok (.iload_n 2, 1) := by decide +kernel
theorem dX8_sends_15 : decode cX8_sends 15 = .ok (.aload_n 0, 1) := by decide +kernel
theorem dX8_sends_16 : decode cX8_sends 16 = .ok (.getfield 85, 3) := by decide +kernel
theorem dX8_sends_19 : decode cX8_sends 19 = .ok (.bipush 21, 2) := by decide +kernel
theorem dX8_sends_21 : decode cX8_sends 21 = .ok (.iload_n 1, 1) := by decide +kernel
theorem dX8_sends_22 : decode cX8_sends 22 = .ok (.imul, 1) := by decide +kernel
theorem dX8_sends_23 : decode cX8_sends 23 = .ok (.iload_n 3, 1) := by decide +kernel
theorem dX8_sends_24 : decode cX8_sends 24 = .ok (.iadd, 1) := by decide +kernel
theorem dX8_sends_25 : decode cX8_sends 25 = .ok (.iaload, 1) := by decide +kernel
theorem dX8_sends_26 : decode cX8_sends 26 = .ok (.invokestatic 221, 3) := by decide +kernel
theorem dX8_sends_29 : decode cX8_sends 29 = .ok (.istore 4, 2) := by decide +kernel
theorem dX8_sends_31 : decode cX8_sends 31 = .ok (.aload_n 0, 1) := by decide +kernel
theorem dX8_sends_32 : decode cX8_sends 32 = .ok (.getfield 85, 3) := by decide +kernel
theorem dX8_sends_35 : decode cX8_sends 35 = .ok (.bipush 21, 2) := by decide +kernel
theorem dX8_sends_37 : decode cX8_sends 37 = .ok (.iload_n 1, 1) := by decide +kernel
theorem dX8_sends_38 : decode cX8_sends 38 = .ok (.imul, 1) := by decide +kernel
theorem dX8_sends_39 : decode cX8_sends 39 = .ok (.iload_n 3, 1) := by decide +kernel
theorem dX8_sends_40 : decode cX8_sends 40 = .ok (.iadd, 1) := by decide +kernel
theorem dX8_sends_41 : decode cX8_sends 41 = .ok (.dup2, 1) := by decide +kernel
theorem dX8_sends_42 : decode cX8_sends 42 = .ok (.iaload, 1) := by decide +kernel
theorem dX8_sends_43 : decode cX8_sends 43 = .ok (.iload 4, 2) := by decide +kernel
theorem dX8_sends_45 : decode cX8_sends 45 = .ok (.isub, 1) := by decide +kernel
theorem dX8_sends_46 : decode cX8_sends 46 = .ok (.iastore, 1) := by decide +kernel
theorem dX8_sends_47 : decode cX8_sends 47 = .ok (.aload_n 0, 1) := by decide +kernel
theorem dX8_sends_48 : decode cX8_sends 48 = .ok (.getfield 91, 3) := by decide +kernel
theorem dX8_sends_51 : decode cX8_sends 51 = .ok (.iload_n 1, 1) := by decide +kernel
theorem dX8_sends_52 : decode cX8_sends 52 = .ok (.dup2, 1) := by decide +kernel
theorem dX8_sends_53 : decode cX8_sends 53 = .ok (.laload, 1) := by decide +kernel
theorem dX8_sends_54 : decode cX8_sends 54 = .ok (.iload 4, 2) := by decide +kernel
theorem dX8_sends_56 : decode cX8_sends 56 = .ok (.i2l, 1) := by decide +kernel
theorem dX8_sends_57 : decode cX8_sends 57 = .ok (.ladd, 1) := by decide +kernel
theorem dX8_sends_58 : decode cX8_sends 58 = .ok (.lastore, 1) := by decide +kernel
theorem dX8_sends_59 : decode cX8_sends 59 = .ok (.iload_n 2, 1) := by decide +kernel
theorem dX8_sends_60 : decode cX8_sends 60 = .ok (.iload 4, 2) := by decide +kernel
theorem dX8_sends_62 : decode cX8_sends 62 = .ok (.isub, 1) := by decide +kernel
theorem dX8_sends_63 : decode cX8_sends 63 = .ok (.istore_n 2, 1) := by decide +kernel
theorem dX8_sends_64 : decode cX8_sends 64 = .ok (.iinc 3 (-1), 3) := by decide +kernel
theorem dX8_sends_67 : decode cX8_sends 67 = .ok (.goto (-57), 3) := by decide +kernel
theorem dX8_sends_70 : decode cX8_sends 70 = .ok (.return_, 1) := by decide +kernel
theorem dX8_goesBy_0 : decode cX8_goesBy 0 = .ok (.iconst 0, 1) := by decide +kernel
theorem dX8_goesBy_1 : decode cX8_goesBy 1 = .ok (.istore_n 1, 1) := by decide +kernel
theorem dX8_goesBy_2 : decode cX8_goesBy 2 = .ok (.iload_n 1, 1) := by decide +kernel
theorem dX8_goesBy_3 : decode cX8_goesBy 3 = .ok (.aload_n 0, 1) := by decide +kernel
theorem dX8_goesBy_4 : decode cX8_goesBy 4 = .ok (.getfield 154, 3) := by decide +kernel
theorem dX8_goesBy_7 : decode cX8_goesBy 7 = .ok (.if_icmp .ge 62, 3) := by decide +kernel
theorem dX8_goesBy_10 : decode cX8_goesBy 10 = .ok (.aload_n 0, 1) := by decide +kernel
theorem dX8_goesBy_11 : decode cX8_goesBy 11 = .ok (.getfield 85, 3) := by decide +kernel
theorem dX8_goesBy_14 : decode cX8_goesBy 14 = .ok (.bipush 21, 2) := by decide +kernel
theorem dX8_goesBy_16 : decode cX8_goesBy 16 = .ok (.iload_n 1, 1) := by decide +kernel
theorem dX8_goesBy_17 : decode cX8_goesBy 17 = .ok (.imul, 1) := by decide +kernel
theorem dX8_goesBy_18 : decode cX8_goesBy 18 = .ok (.dup2, 1) := by decide +kernel
theorem dX8_goesBy_19 : decode cX8_goesBy 19 = .ok (.iaload, 1) := by decide +kernel
theorem dX8_goesBy_20 : decode cX8_goesBy 20 = .ok (.aload_n 0, 1) := by decide +kernel
theorem dX8_goesBy_21 : decode cX8_goesBy 21 = .ok (.getfield 57, 3) := by decide +kernel
theorem dX8_goesBy_24 : decode cX8_goesBy 24 = .ok (.iload_n 1, 1) := by decide +kernel
theorem dX8_goesBy_25 : decode cX8_goesBy 25 = .ok (.iaload, 1) := by decide +kernel
theorem dX8_goesBy_26 : decode cX8_goesBy 26 = .ok (.iadd, 1) := by decide +kernel
theorem dX8_goesBy_27 : decode cX8_goesBy 27 = .ok (.iastore, 1) := by decide +kernel
theorem dX8_goesBy_28 : decode cX8_goesBy 28 = .ok (.aload_n 0, 1) := by decide +kernel
theorem dX8_goesBy_29 : decode cX8_goesBy 29 = .ok (.getfield 88, 3) := by decide +kernel
theorem dX8_goesBy_32 : decode cX8_goesBy 32 = .ok (.iload_n 1, 1) := by decide +kernel
theorem dX8_goesBy_33 : decode cX8_goesBy 33 = .ok (.dup2, 1) := by decide +kernel
theorem dX8_goesBy_34 : decode cX8_goesBy 34 = .ok (.laload, 1) := by decide +kernel
theorem dX8_goesBy_35 : decode cX8_goesBy 35 = .ok (.aload_n 0, 1) := by decide +kernel
theorem dX8_goesBy_36 : decode cX8_goesBy 36 = .ok (.getfield 57, 3) := by decide +kernel
theorem dX8_goesBy_39 : decode cX8_goesBy 39 = .ok (.iload_n 1, 1) := by decide +kernel
theorem dX8_goesBy_40 : decode cX8_goesBy 40 = .ok (.iaload, 1) := by decide +kernel
theorem dX8_goesBy_41 : decode cX8_goesBy 41 = .ok (.i2l, 1) := by decide +kernel
theorem dX8_goesBy_42 : decode cX8_goesBy 42 = .ok (.ladd, 1) := by decide +kernel
theorem dX8_goesBy_43 : decode cX8_goesBy 43 = .ok (.lastore, 1) := by decide +kernel
theorem dX8_goesBy_44 : decode cX8_goesBy 44 = .ok (.aload_n 0, 1) := by decide +kernel
theorem dX8_goesBy_45 : decode cX8_goesBy 45 = .ok (.getfield 134, 3) := by decide +kernel
theorem dX8_goesBy_48 : decode cX8_goesBy 48 = .ok (.iload_n 1, 1) := by decide +kernel
theorem dX8_goesBy_49 : decode cX8_goesBy 49 = .ok (.aload_n 0, 1) := by decide +kernel
theorem dX8_goesBy_50 : decode cX8_goesBy 50 = .ok (.iload_n 1, 1) := by decide +kernel
theorem dX8_goesBy_51 : decode cX8_goesBy 51 = .ok (.invokevirtual 256, 3) := by decide +kernel
theorem dX8_goesBy_54 : decode cX8_goesBy 54 = .ok (.aload_n 0, 1) := by decide +kernel
theorem dX8_goesBy_55 : decode cX8_goesBy 55 = .ok (.iload_n 1, 1) := by decide +kernel
theorem dX8_goesBy_56 : decode cX8_goesBy 56 = .ok (.invokevirtual 259, 3) := by decide +kernel
theorem dX8_goesBy_59 : decode cX8_goesBy 59 = .ok (.invokestatic 221, 3) := by decide +kernel
theorem dX8_goesBy_62 : decode cX8_goesBy 62 = .ok (.iastore, 1) := by decide +kernel
theorem dX8_goesBy_63 : decode cX8_goesBy 63 = .ok (.iinc 1 1, 3) := by decide +kernel
theorem dX8_goesBy_66 : decode cX8_goesBy 66 = .ok (.goto (-64), 3) := by decide +kernel
theorem dX8_goesBy_69 : decode cX8_goesBy 69 = .ok (.aload_n 0, 1) := by decide +kernel
theorem dX8_goesBy_70 : decode cX8_goesBy 70 = .ok (.aload_n 0, 1) := by decide +kernel
theorem dX8_goesBy_71 : decode cX8_goesBy 71 = .ok (.getfield 250, 3) := by decide +kernel
theorem dX8_goesBy_74 : decode cX8_goesBy 74 = .ok (.ifCond .ne 10, 3) := by decide +kernel
theorem dX8_goesBy_77 : decode cX8_goesBy 77 = .ok (.aload_n 0, 1) := by decide +kernel
theorem dX8_goesBy_78 : decode cX8_goesBy 78 = .ok (.invokevirtual 262, 3) := by decide +kernel
theorem dX8_goesBy_81 : decode cX8_goesBy 81 = .ok (.goto 7, 3) := by decide +kernel
theorem dX8_goesBy_84 : decode cX8_goesBy 84 = .ok (.aload_n 0, 1) := by decide +kernel
theorem dX8_goesBy_85 : decode cX8_goesBy 85 = .ok (.invokevirtual 265, 3) := by decide +kernel
theorem dX8_goesBy_88 : decode cX8_goesBy 88 = .ok (.putfield 36, 3) := by decide +kernel
theorem dX8_goesBy_91 : decode cX8_goesBy 91 = .ok (.iconst 0, 1) := by decide +kernel
theorem dX8_goesBy_92 : decode cX8_goesBy 92 = .ok (.istore_n 1, 1) := by decide +kernel
theorem dX8_goesBy_93 : decode cX8_goesBy 93 = .ok (.iload_n 1, 1) := by decide +kernel
theorem dX8_goesBy_94 : decode cX8_goesBy 94 = .ok (.aload_n 0, 1) := by decide +kernel
theorem dX8_goesBy_95 : decode cX8_goesBy 95 = .ok (.getfield 154, 3) := by decide +kernel
theorem dX8_goesBy_98 : decode cX8_goesBy 98 = .ok (.if_icmp .ge 175, 3) := by decide +kernel
theorem dX8_goesBy_101 : decode cX8_goesBy 101 = .ok (.aload_n 0, 1) := by decide +kernel
theorem dX8_goesBy_102 : decode cX8_goesBy 102 = .ok (.getfield 36, 3) := by decide +kernel
theorem dX8_goesBy_105 : decode cX8_goesBy 105 = .ok (.iload_n 1, 1) := by decide +kernel
theorem dX8_goesBy_106 : decode cX8_goesBy 106 = .ok (.ishr, 1) := by decide +kernel
theorem dX8_goesBy_107 : decode cX8_goesBy 107 = .ok (.iconst 1, 1) := by decide +kernel
theorem dX8_goesBy_108 : decode cX8_goesBy 108 = .ok (.iand, 1) := by decide +kernel
theorem dX8_goesBy_109 : decode cX8_goesBy 109 = .ok (.iconst 1, 1) := by decide +kernel
theorem dX8_goesBy_110 : decode cX8_goesBy 110 = .ok (.if_icmp .ne 28, 3) := by decide +kernel
theorem dX8_goesBy_113 : decode cX8_goesBy 113 = .ok (.aload_n 0, 1) := by decide +kernel
theorem dX8_goesBy_114 : decode cX8_goesBy 114 = .ok (.iload_n 1, 1) := by decide +kernel
theorem dX8_goesBy_115 : decode cX8_goesBy 115 = .ok (.invokevirtual 268, 3) := by decide +kernel
theorem dX8_goesBy_118 : decode cX8_goesBy 118 = .ok (.aload_n 0, 1) := by decide +kernel
theorem dX8_goesBy_119 : decode cX8_goesBy 119 = .ok (.getfield 72, 3) := by decide +kernel
theorem dX8_goesBy_122 : decode cX8_goesBy 122 = .ok (.iload_n 1, 1) := by decide +kernel
theorem dX8_goesBy_123 : decode cX8_goesBy 123 = .ok (.dup2, 1) := by decide +kernel
theorem dX8_goesBy_124 : decode cX8_goesBy 124 = .ok (.iaload, 1) := by decide +kernel
theorem dX8_goesBy_125 : decode cX8_goesBy 125 = .ok (.iconst 1, 1) := by decide +kernel
theorem dX8_goesBy_126 : decode cX8_goesBy 126 = .ok (.iadd, 1) := by decide +kernel
theorem dX8_goesBy_127 : decode cX8_goesBy 127 = .ok (.iastore, 1) := by decide +kernel
theorem dX8_goesBy_128 : decode cX8_goesBy 128 = .ok (.aload_n 0, 1) := by decide +kernel
theorem dX8_goesBy_129 : decode cX8_goesBy 129 = .ok (.getfield 66, 3) := by decide +kernel
theorem dX8_goesBy_132 : decode cX8_goesBy 132 = .ok (.iload_n 1, 1) := by decide +kernel
theorem dX8_goesBy_133 : decode cX8_goesBy 133 = .ok (.iconst 0, 1) := by decide +kernel
theorem dX8_goesBy_134 : decode cX8_goesBy 134 = .ok (.iastore, 1) := by decide +kernel
theorem dX8_goesBy_135 : decode cX8_goesBy 135 = .ok (.goto 34, 3) := by decide +kernel
theorem dX8_goesBy_138 : decode cX8_goesBy 138 = .ok (.aload_n 0, 1) := by decide +kernel
theorem dX8_goesBy_139 : decode cX8_goesBy 139 = .ok (.getfield 66, 3) := by decide +kernel
theorem dX8_goesBy_142 : decode cX8_goesBy 142 = .ok (.iload_n 1, 1) := by decide +kernel
theorem dX8_goesBy_143 : decode cX8_goesBy 143 = .ok (.dup2, 1) := by decide +kernel
theorem dX8_goesBy_144 : decode cX8_goesBy 144 = .ok (.iaload, 1) := by decide +kernel
theorem dX8_goesBy_145 : decode cX8_goesBy 145 = .ok (.iconst 1, 1) := by decide +kernel
theorem dX8_goesBy_146 : decode cX8_goesBy 146 = .ok (.iadd, 1) := by decide +kernel
theorem dX8_goesBy_147 : decode cX8_goesBy 147 = .ok (.iastore, 1) := by decide +kernel
theorem dX8_goesBy_148 : decode cX8_goesBy 148 = .ok (.aload_n 0, 1) := by decide +kernel
theorem dX8_goesBy_149 : decode cX8_goesBy 149 = .ok (.getfield 69, 3) := by decide +kernel
theorem dX8_goesBy_152 : decode cX8_goesBy 152 = .ok (.iload_n 1, 1) := by decide +kernel
theorem dX8_goesBy_153 : decode cX8_goesBy 153 = .ok (.aload_n 0, 1) := by decide +kernel
theorem dX8_goesBy_154 : decode cX8_goesBy 154 = .ok (.getfield 69, 3) := by decide +kernel
theorem dX8_goesBy_157 : decode cX8_goesBy 157 = .ok (.iload_n 1, 1) := by decide +kernel
theorem dX8_goesBy_158 : decode cX8_goesBy 158 = .ok (.iaload, 1) := by decide +kernel
theorem dX8_goesBy_159 : decode cX8_goesBy 159 = .ok (.aload_n 0, 1) := by decide +kernel
theorem dX8_goesBy_160 : decode cX8_goesBy 160 = .ok (.getfield 66, 3) := by decide +kernel
theorem dX8_goesBy_163 : decode cX8_goesBy 163 = .ok (.iload_n 1, 1) := by decide +kernel
theorem dX8_goesBy_164 : decode cX8_goesBy 164 = .ok (.iaload, 1) := by decide +kernel
theorem dX8_goesBy_165 : decode cX8_goesBy 165 = .ok (.invokestatic 272, 3) := by decide +kernel
theorem dX8_goesBy_168 : decode cX8_goesBy 168 = .ok (.iastore, 1) := by decide +kernel
theorem dX8_goesBy_169 : decode cX8_goesBy 169 = .ok (.bipush 20, 2) := by decide +kernel
theorem dX8_goesBy_171 : decode cX8_goesBy 171 = .ok (.istore_n 2, 1) := by decide +kernel
theorem dX8_goesBy_172 : decode cX8_goesBy 172 = .ok (.iload_n 2, 1) := by decide +kernel
theorem dX8_goesBy_173 : decode cX8_goesBy 173 = .ok (.ifCond .lt 71, 3) := by decide +kernel
theorem dX8_goesBy_176 : decode cX8_goesBy 176 = .ok (.aload_n 0, 1) := by decide +kernel
theorem dX8_goesBy_177 : decode cX8_goesBy 177 = .ok (.getfield 85, 3) := by decide +kernel
theorem dX8_goesBy_180 : decode cX8_goesBy 180 = .ok (.bipush 21, 2) := by decide +kernel
theorem dX8_goesBy_182 : decode cX8_goesBy 182 = .ok (.iload_n 1, 1) := by decide +kernel
theorem dX8_goesBy_183 : decode cX8_goesBy 183 = .ok (.imul, 1) := by decide +kernel
theorem dX8_goesBy_184 : decode cX8_goesBy 184 = .ok (.iload_n 2, 1) := by decide +kernel
theorem dX8_goesBy_185 : decode cX8_goesBy 185 = .ok (.iadd, 1) := by decide +kernel
theorem dX8_goesBy_186 : decode cX8_goesBy 186 = .ok (.iaload, 1) := by decide +kernel
theorem dX8_goesBy_187 : decode cX8_goesBy 187 = .ok (.istore_n 3, 1) := by decide +kernel
theorem dX8_goesBy_188 : decode cX8_goesBy 188 = .ok (.aload_n 0, 1) := by decide +kernel
theorem dX8_goesBy_189 : decode cX8_goesBy 189 = .ok (.getfield 85, 3) := by decide +kernel
theorem dX8_goesBy_192 : decode cX8_goesBy 192 = .ok (.bipush 21, 2) := by decide +kernel
theorem dX8_goesBy_194 : decode cX8_goesBy 194 = .ok (.iload_n 1, 1) := by decide +kernel
theorem dX8_goesBy_195 : decode cX8_goesBy 195 = .ok (.imul, 1) := by decide +kernel
theorem dX8_goesBy_196 : decode cX8_goesBy 196 = .ok (.iload_n 2, 1) := by decide +kernel
theorem dX8_goesBy_197 : decode cX8_goesBy 197 = .ok (.iadd, 1) := by decide +kernel
theorem dX8_goesBy_198 : decode cX8_goesBy 198 = .ok (.iconst 0, 1) := by decide +kernel
theorem dX8_goesBy_199 : decode cX8_goesBy 199 = .ok (.iastore, 1) := by decide +kernel
theorem dX8_goesBy_200 : decode cX8_goesBy 200 = .ok (.iload_n 2, 1) := by decide +kernel
theorem dX8_goesBy_201 : decode cX8_goesBy 201 = .ok (.iconst 1, 1) := by decide +kernel
theorem dX8_goesBy_202 : decode cX8_goesBy 202 = .ok (.iadd, 1) := by decide +kernel
theorem dX8_goesBy_203 : decode cX8_goesBy 203 = .ok (.aload_n 0, 1) := by decide +kernel
theorem dX8_goesBy_204 : decode cX8_goesBy 204 = .ok (.getfield 30, 3) := by decide +kernel
theorem dX8_goesBy_207 : decode cX8_goesBy 207 = .ok (.if_icmp .lt 17, 3) := by decide +kernel
theorem dX8_goesBy_210 : decode cX8_goesBy 210 = .ok (.aload_n 0, 1) := by decide +kernel
theorem dX8_goesBy_211 : decode cX8_goesBy 211 = .ok (.getfield 94, 3) := by decide +kernel
theorem dX8_goesBy_214 : decode cX8_goesBy 214 = .ok (.iload_n 1, 1) := by decide +kernel
theorem dX8_goesBy_215 : decode cX8_goesBy 215 = .ok (.dup2, 1) := by decide +kernel
theorem dX8_goesBy_216 : decode cX8_goesBy 216 = .ok (.laload, 1) := by decide +kernel
theorem dX8_goesBy_217 : decode cX8_goesBy 217 = .ok (.iload_n 3, 1) := by decide +kernel
theorem dX8_goesBy_218 : decode cX8_goesBy 218 = .ok (.i2l, 1) := by decide +kernel
theorem dX8_goesBy_219 : decode cX8_goesBy 219 = .ok (.ladd, 1) := by decide +kernel
theorem dX8_goesBy_220 : decode cX8_goesBy 220 = .ok (.lastore, 1) := by decide +kernel
theorem dX8_goesBy_221 : decode cX8_goesBy 221 = .ok (.goto 17, 3) := by decide +kernel
theorem dX8_goesBy_224 : decode cX8_goesBy 224 = .ok (.aload_n 0, 1) := by decide +kernel
theorem dX8_goesBy_225 : decode cX8_goesBy 225 = .ok (.getfield 85, 3) := by decide +kernel
theorem dX8_goesBy_228 : decode cX8_goesBy 228 = .ok (.bipush 21, 2) := by decide +kernel
theorem dX8_goesBy_230 : decode cX8_goesBy 230 = .ok (.iload_n 1, 1) := by decide +kernel
theorem dX8_goesBy_231 : decode cX8_goesBy 231 = .ok (.imul, 1) := by decide +kernel
theorem dX8_goesBy_232 : decode cX8_goesBy 232 = .ok (.iload_n 2, 1) := by decide +kernel
theorem dX8_goesBy_233 : decode cX8_goesBy 233 = .ok (.iadd, 1) := by decide +kernel
theorem dX8_goesBy_234 : decode cX8_goesBy 234 = .ok (.iconst 1, 1) := by decide +kernel
theorem dX8_goesBy_235 : decode cX8_goesBy 235 = .ok (.iadd, 1) := by decide +kernel
theorem dX8_goesBy_236 : decode cX8_goesBy 236 = .ok (.iload_n 3, 1) := by decide +kernel
theorem dX8_goesBy_237 : decode cX8_goesBy 237 = .ok (.iastore, 1) := by decide +kernel
theorem dX8_goesBy_238 : decode cX8_goesBy 238 = .ok (.iinc 2 (-1), 3) := by decide +kernel
theorem dX8_goesBy_241 : decode cX8_goesBy 241 = .ok (.goto (-69), 3) := by decide +kernel
theorem dX8_goesBy_244 : decode cX8_goesBy 244 = .ok (.aload_n 0, 1) := by decide +kernel
theorem dX8_goesBy_245 : decode cX8_goesBy 245 = .ok (.getfield 51, 3) := by decide +kernel
theorem dX8_goesBy_248 : decode cX8_goesBy 248 = .ok (.iload_n 1, 1) := by decide +kernel
theorem dX8_goesBy_249 : decode cX8_goesBy 249 = .ok (.dup2, 1) := by decide +kernel
theorem dX8_goesBy_250 : decode cX8_goesBy 250 = .ok (.iaload, 1) := by decide +kernel
theorem dX8_goesBy_251 : decode cX8_goesBy 251 = .ok (.aload_n 0, 1) := by decide +kernel
theorem dX8_goesBy_252 : decode cX8_goesBy 252 = .ok (.getfield 51, 3) := by decide +kernel
theorem dX8_goesBy_255 : decode cX8_goesBy 255 = .ok (.iload_n 1, 1) := by decide +kernel
theorem dX8_goesBy_256 : decode cX8_goesBy 256 = .ok (.iaload, 1) := by decide +kernel
theorem dX8_goesBy_257 : decode cX8_goesBy 257 = .ok (.ifCond .le 7, 3) := by decide +kernel
theorem dX8_goesBy_260 : decode cX8_goesBy 260 = .ok (.iconst 1, 1) := by decide +kernel
theorem dX8_goesBy_261 : decode cX8_goesBy 261 = .ok (.goto 4, 3) := by decide +kernel
theorem dX8_goesBy_264 : decode cX8_goesBy 264 = .ok (.iconst 0, 1) := by decide +kernel
theorem dX8_goesBy_265 : decode cX8_goesBy 265 = .ok (.isub, 1) := by decide +kernel
theorem dX8_goesBy_266 : decode cX8_goesBy 266 = .ok (.iastore, 1) := by decide +kernel
theorem dX8_goesBy_267 : decode cX8_goesBy 267 = .ok (.iinc 1 1, 3) := by decide +kernel
theorem dX8_goesBy_270 : decode cX8_goesBy 270 = .ok (.goto (-177), 3) := by decide +kernel
theorem dX8_goesBy_273 : decode cX8_goesBy 273 = .ok (.aload_n 0, 1) := by decide +kernel
theorem dX8_goesBy_274 : decode cX8_goesBy 274 = .ok (.dup, 1) := by decide +kernel
theorem dX8_goesBy_275 : decode cX8_goesBy 275 = .ok (.getfield 253, 3) := by decide +kernel
theorem dX8_goesBy_278 : decode cX8_goesBy 278 = .ok (.iconst 1, 1) := by decide +kernel
theorem dX8_goesBy_279 : decode cX8_goesBy 279 = .ok (.iadd, 1) := by decide +kernel
theorem dX8_goesBy_280 : decode cX8_goesBy 280 = .ok (.putfield 253, 3) := by decide +kernel
theorem dX8_goesBy_283 : decode cX8_goesBy 283 = .ok (.return_, 1) := by decide +kernel
theorem dX8_go_0 : decode cX8_go 0 = .ok (.aload_n 0, 1) := by decide +kernel
theorem dX8_go_1 : decode cX8_go 1 = .ok (.iconst 0, 1) := by decide +kernel
theorem dX8_go_2 : decode cX8_go 2 = .ok (.putfield 137, 3) := by decide +kernel
theorem dX8_go_5 : decode cX8_go 5 = .ok (.iload_n 1, 1) := by decide +kernel
theorem dX8_go_6 : decode cX8_go 6 = .ok (.i2l, 1) := by decide +kernel
theorem dX8_go_7 : decode cX8_go 7 = .ok (.lconst 1, 1) := by decide +kernel
theorem dX8_go_8 : decode cX8_go 8 = .ok (.ldc2_w 274, 3) := by decide +kernel
theorem dX8_go_11 : decode cX8_go 11 = .ok (.invokestatic 142, 3) := by decide +kernel
theorem dX8_go_14 : decode cX8_go 14 = .ok (.ifCond .ne 6, 3) := by decide +kernel
theorem dX8_go_17 : decode cX8_go 17 = .ok (.bipush (-2), 2) := by decide +kernel
theorem dX8_go_19 : decode cX8_go 19 = .ok (.ireturn, 1) := by decide +kernel
theorem dX8_go_20 : decode cX8_go 20 = .ok (.aload_n 0, 1) := by decide +kernel
theorem dX8_go_21 : decode cX8_go 21 = .ok (.getfield 253, 3) := by decide +kernel
theorem dX8_go_24 : decode cX8_go 24 = .ok (.iload_n 1, 1) := by decide +kernel
theorem dX8_go_25 : decode cX8_go 25 = .ok (.iadd, 1) := by decide +kernel
theorem dX8_go_26 : decode cX8_go 26 = .ok (.sipush 20000, 3) := by decide +kernel
theorem dX8_go_29 : decode cX8_go 29 = .ok (.if_icmp .le 6, 3) := by decide +kernel
theorem dX8_go_32 : decode cX8_go 32 = .ok (.bipush (-3), 2) := by decide +kernel
theorem dX8_go_34 : decode cX8_go 34 = .ok (.ireturn, 1) := by decide +kernel
theorem dX8_go_35 : decode cX8_go 35 = .ok (.iconst 0, 1) := by decide +kernel
theorem dX8_go_36 : decode cX8_go 36 = .ok (.istore_n 2, 1) := by decide +kernel
theorem dX8_go_37 : decode cX8_go 37 = .ok (.iload_n 2, 1) := by decide +kernel
theorem dX8_go_38 : decode cX8_go 38 = .ok (.iload_n 1, 1) := by decide +kernel
theorem dX8_go_39 : decode cX8_go 39 = .ok (.if_icmp .ge 13, 3) := by decide +kernel
theorem dX8_go_42 : decode cX8_go 42 = .ok (.aload_n 0, 1) := by decide +kernel
theorem dX8_go_43 : decode cX8_go 43 = .ok (.invokevirtual 276, 3) := by decide +kernel
theorem dX8_go_46 : decode cX8_go 46 = .ok (.iinc 2 1, 3) := by decide +kernel
theorem dX8_go_49 : decode cX8_go 49 = .ok (.goto (-12), 3) := by decide +kernel
theorem dX8_go_52 : decode cX8_go 52 = .ok (.aload_n 0, 1) := by decide +kernel
theorem dX8_go_53 : decode cX8_go 53 = .ok (.getfield 253, 3) := by decide +kernel
theorem dX8_go_56 : decode cX8_go 56 = .ok (.ireturn, 1) := by decide +kernel
theorem dX8_lit_0 : decode cX8_lit 0 = .ok (.aload_n 0, 1) := by decide +kernel
theorem dX8_lit_1 : decode cX8_lit 1 = .ok (.iconst 0, 1) := by decide +kernel
theorem dX8_lit_2 : decode cX8_lit 2 = .ok (.putfield 137, 3) := by decide +kernel
theorem dX8_lit_5 : decode cX8_lit 5 = .ok (.aload_n 0, 1) := by decide +kernel
theorem dX8_lit_6 : decode cX8_lit 6 = .ok (.getfield 36, 3) := by decide +kernel
theorem dX8_lit_9 : decode cX8_lit 9 = .ok (.ireturn, 1) := by decide +kernel
theorem dX8_cellOf_0 : decode cX8_cellOf 0 = .ok (.aload_n 0, 1) := by decide +kernel
theorem dX8_cellOf_1 : decode cX8_cellOf 1 = .ok (.iconst 0, 1) := by decide +kernel
theorem dX8_cellOf_2 : decode cX8_cellOf 2 = .ok (.putfield 137, 3) := by decide +kernel
theorem dX8_cellOf_5 : decode cX8_cellOf 5 = .ok (.aload_n 0, 1) := by decide +kernel
theorem dX8_cellOf_6 : decode cX8_cellOf 6 = .ok (.iload_n 1, 1) := by decide +kernel
theorem dX8_cellOf_7 : decode cX8_cellOf 7 = .ok (.invokevirtual 169, 3) := by decide +kernel
theorem dX8_cellOf_10 : decode cX8_cellOf 10 = .ok (.ifCond .ne 6, 3) := by decide +kernel
theorem dX8_cellOf_13 : decode cX8_cellOf 13 = .ok (.bipush (-2), 2) := by decide +kernel
theorem dX8_cellOf_15 : decode cX8_cellOf 15 = .ok (.ireturn, 1) := by decide +kernel
theorem dX8_cellOf_16 : decode cX8_cellOf 16 = .ok (.iload_n 2, 1) := by decide +kernel
theorem dX8_cellOf_17 : decode cX8_cellOf 17 = .ok (.tableswitch 186 0 12 #[67, 73, 79, 86, 93, 100, 107, 113, 151, 158, 165, 172, 179], 67) := by decide +kernel
theorem dX8_cellOf_84 : decode cX8_cellOf 84 = .ok (.aload_n 0, 1) := by decide +kernel
theorem dX8_cellOf_85 : decode cX8_cellOf 85 = .ok (.iload_n 1, 1) := by decide +kernel
theorem dX8_cellOf_86 : decode cX8_cellOf 86 = .ok (.invokevirtual 185, 3) := by decide +kernel
theorem dX8_cellOf_89 : decode cX8_cellOf 89 = .ok (.ireturn, 1) := by decide +kernel
theorem dX8_cellOf_90 : decode cX8_cellOf 90 = .ok (.aload_n 0, 1) := by decide +kernel
theorem dX8_cellOf_91 : decode cX8_cellOf 91 = .ok (.iload_n 1, 1) := by decide +kernel
theorem dX8_cellOf_92 : decode cX8_cellOf 92 = .ok (.invokevirtual 259, 3) := by decide +kernel
theorem dX8_cellOf_95 : decode cX8_cellOf 95 = .ok (.ireturn, 1) := by decide +kernel
theorem dX8_cellOf_96 : decode cX8_cellOf 96 = .ok (.aload_n 0, 1) := by decide +kernel
theorem dX8_cellOf_97 : decode cX8_cellOf 97 = .ok (.getfield 48, 3) := by decide +kernel
theorem dX8_cellOf_100 : decode cX8_cellOf 100 = .ok (.iload_n 1, 1) := by decide +kernel
theorem dX8_cellOf_101 : decode cX8_cellOf 101 = .ok (.iaload, 1) := by decide +kernel
theorem dX8_cellOf_102 : decode cX8_cellOf 102 = .ok (.ireturn, 1) := by decide +kernel
theorem dX8_cellOf_103 : decode cX8_cellOf 103 = .ok (.aload_n 0, 1) := by decide +kernel
theorem dX8_cellOf_104 : decode cX8_cellOf 104 = .ok (.getfield 51, 3) := by decide +kernel
theorem dX8_cellOf_107 : decode cX8_cellOf 107 = .ok (.iload_n 1, 1) := by decide +kernel
theorem dX8_cellOf_108 : decode cX8_cellOf 108 = .ok (.iaload, 1) := by decide +kernel
theorem dX8_cellOf_109 : decode cX8_cellOf 109 = .ok (.ireturn, 1) := by decide +kernel
theorem dX8_cellOf_110 : decode cX8_cellOf 110 = .ok (.aload_n 0, 1) := by decide +kernel
theorem dX8_cellOf_111 : decode cX8_cellOf 111 = .ok (.getfield 54, 3) := by decide +kernel
theorem dX8_cellOf_114 : decode cX8_cellOf 114 = .ok (.iload_n 1, 1) := by decide +kernel
theorem dX8_cellOf_115 : decode cX8_cellOf 115 = .ok (.iaload, 1) := by decide +kernel
theorem dX8_cellOf_116 : decode cX8_cellOf 116 = .ok (.ireturn, 1) := by decide +kernel
theorem dX8_cellOf_117 : decode cX8_cellOf 117 = .ok (.aload_n 0, 1) := by decide +kernel
theorem dX8_cellOf_118 : decode cX8_cellOf 118 = .ok (.getfield 57, 3) := by decide +kernel
theorem dX8_cellOf_121 : decode cX8_cellOf 121 = .ok (.iload_n 1, 1) := by decide +kernel
theorem dX8_cellOf_122 : decode cX8_cellOf 122 = .ok (.iaload, 1) := by decide +kernel
theorem dX8_cellOf_123 : decode cX8_cellOf 123 = .ok (.ireturn, 1) := by decide +kernel
theorem dX8_cellOf_124 : decode cX8_cellOf 124 = .ok (.aload_n 0, 1) := by decide +kernel
theorem dX8_cellOf_125 : decode cX8_cellOf 125 = .ok (.iload_n 1, 1) := by decide +kernel
theorem dX8_cellOf_126 : decode cX8_cellOf 126 = .ok (.invokevirtual 256, 3) := by decide +kernel
theorem dX8_cellOf_129 : decode cX8_cellOf 129 = .ok (.ireturn, 1) := by decide +kernel
theorem dX8_cellOf_130 : decode cX8_cellOf 130 = .ok (.iconst (-1), 1) := by decide +kernel
theorem dX8_cellOf_131 : decode cX8_cellOf 131 = .ok (.istore_n 3, 1) := by decide +kernel
theorem dX8_cellOf_132 : decode cX8_cellOf 132 = .ok (.iconst 0, 1) := by decide +kernel
theorem dX8_cellOf_133 : decode cX8_cellOf 133 = .ok (.istore 4, 2) := by decide +kernel
theorem dX8_cellOf_135 : decode cX8_cellOf 135 = .ok (.iload 4, 2) := by decide +kernel
theorem dX8_cellOf_137 : decode cX8_cellOf 137 = .ok (.bipush 21, 2) := by decide +kernel
theorem dX8_cellOf_139 : decode cX8_cellOf 139 = .ok (.if_icmp .ge 27, 3) := by decide +kernel
theorem dX8_cellOf_142 : decode cX8_cellOf 142 = .ok (.aload_n 0, 1) := by decide +kernel
theorem dX8_cellOf_143 : decode cX8_cellOf 143 = .ok (.getfield 85, 3) := by decide +kernel
theorem dX8_cellOf_146 : decode cX8_cellOf 146 = .ok (.bipush 21, 2) := by decide +kernel
theorem dX8_cellOf_148 : decode cX8_cellOf 148 = .ok (.iload_n 1, 1) := by decide +kernel
theorem dX8_cellOf_149 : decode cX8_cellOf 149 = .ok (.imul, 1) := by decide +kernel
theorem dX8_cellOf_150 : decode cX8_cellOf 150 = .ok (.iload 4, 2) := by decide +kernel
theorem dX8_cellOf_152 : decode cX8_cellOf 152 = .ok (.iadd, 1) := by decide +kernel
theorem dX8_cellOf_153 : decode cX8_cellOf 153 = .ok (.iaload, 1) := by decide +kernel
theorem dX8_cellOf_154 : decode cX8_cellOf 154 = .ok (.ifCond .le 6, 3) := by decide +kernel
theorem dX8_cellOf_157 : decode cX8_cellOf 157 = .ok (.iload 4, 2) := by decide +kernel
theorem dX8_cellOf_159 : decode cX8_cellOf 159 = .ok (.istore_n 3, 1) := by decide +kernel
theorem dX8_cellOf_160 : decode cX8_cellOf 160 = .ok (.iinc 4 1, 3) := by decide +kernel
theorem dX8_cellOf_163 : decode cX8_cellOf 163 = .ok (.goto (-28), 3) := by decide +kernel
theorem dX8_cellOf_166 : decode cX8_cellOf 166 = .ok (.iload_n 3, 1) := by decide +kernel
theorem dX8_cellOf_167 : decode cX8_cellOf 167 = .ok (.ireturn, 1) := by decide +kernel
theorem dX8_cellOf_168 : decode cX8_cellOf 168 = .ok (.aload_n 0, 1) := by decide +kernel
theorem dX8_cellOf_169 : decode cX8_cellOf 169 = .ok (.getfield 69, 3) := by decide +kernel
theorem dX8_cellOf_172 : decode cX8_cellOf 172 = .ok (.iload_n 1, 1) := by decide +kernel
theorem dX8_cellOf_173 : decode cX8_cellOf 173 = .ok (.iaload, 1) := by decide +kernel
theorem dX8_cellOf_174 : decode cX8_cellOf 174 = .ok (.ireturn, 1) := by decide +kernel
theorem dX8_cellOf_175 : decode cX8_cellOf 175 = .ok (.aload_n 0, 1) := by decide +kernel
theorem dX8_cellOf_176 : decode cX8_cellOf 176 = .ok (.getfield 72, 3) := by decide +kernel
theorem dX8_cellOf_179 : decode cX8_cellOf 179 = .ok (.iload_n 1, 1) := by decide +kernel
theorem dX8_cellOf_180 : decode cX8_cellOf 180 = .ok (.iaload, 1) := by decide +kernel
theorem dX8_cellOf_181 : decode cX8_cellOf 181 = .ok (.ireturn, 1) := by decide +kernel
theorem dX8_cellOf_182 : decode cX8_cellOf 182 = .ok (.aload_n 0, 1) := by decide +kernel
theorem dX8_cellOf_183 : decode cX8_cellOf 183 = .ok (.getfield 63, 3) := by decide +kernel
theorem dX8_cellOf_186 : decode cX8_cellOf 186 = .ok (.iload_n 1, 1) := by decide +kernel
theorem dX8_cellOf_187 : decode cX8_cellOf 187 = .ok (.iaload, 1) := by decide +kernel
theorem dX8_cellOf_188 : decode cX8_cellOf 188 = .ok (.ireturn, 1) := by decide +kernel
theorem dX8_cellOf_189 : decode cX8_cellOf 189 = .ok (.aload_n 0, 1) := by decide +kernel
theorem dX8_cellOf_190 : decode cX8_cellOf 190 = .ok (.getfield 60, 3) := by decide +kernel
theorem dX8_cellOf_193 : decode cX8_cellOf 193 = .ok (.iload_n 1, 1) := by decide +kernel
theorem dX8_cellOf_194 : decode cX8_cellOf 194 = .ok (.iaload, 1) := by decide +kernel
theorem dX8_cellOf_195 : decode cX8_cellOf 195 = .ok (.ireturn, 1) := by decide +kernel
theorem dX8_cellOf_196 : decode cX8_cellOf 196 = .ok (.aload_n 0, 1) := by decide +kernel
theorem dX8_cellOf_197 : decode cX8_cellOf 197 = .ok (.getfield 45, 3) := by decide +kernel
theorem dX8_cellOf_200 : decode cX8_cellOf 200 = .ok (.iload_n 1, 1) := by decide +kernel
theorem dX8_cellOf_201 : decode cX8_cellOf 201 = .ok (.iaload, 1) := by decide +kernel
theorem dX8_cellOf_202 : decode cX8_cellOf 202 = .ok (.ireturn, 1) := by decide +kernel
theorem dX8_cellOf_203 : decode cX8_cellOf 203 = .ok (.bipush (-2), 2) := by decide +kernel
theorem dX8_cellOf_205 : decode cX8_cellOf 205 = .ok (.ireturn, 1) := by decide +kernel
theorem dX8_units_0 : decode cX8_units 0 = .ok (.aload_n 0, 1) := by decide +kernel
theorem dX8_units_1 : decode cX8_units 1 = .ok (.iconst 0, 1) := by decide +kernel
theorem dX8_units_2 : decode cX8_units 2 = .ok (.putfield 137, 3) := by decide +kernel
theorem dX8_units_5 : decode cX8_units 5 = .ok (.aload_n 0, 1) := by decide +kernel
theorem dX8_units_6 : decode cX8_units 6 = .ok (.iload_n 1, 1) := by decide +kernel
theorem dX8_units_7 : decode cX8_units 7 = .ok (.invokevirtual 169, 3) := by decide +kernel
theorem dX8_units_10 : decode cX8_units 10 = .ok (.ifCond .ne 9, 3) := by decide +kernel
theorem dX8_units_13 : decode cX8_units 13 = .ok (.ldc2_w 279, 3) := by decide +kernel
theorem dX8_units_16 : decode cX8_units 16 = .ok (.goto 47, 3) := by decide +kernel
theorem dX8_units_19 : decode cX8_units 19 = .ok (.iload_n 2, 1) := by decide +kernel
theorem dX8_units_20 : decode cX8_units 20 = .ok (.ifCond .ne 12, 3) := by decide +kernel
theorem dX8_units_23 : decode cX8_units 23 = .ok (.aload_n 0, 1) := by decide +kernel
theorem dX8_units_24 : decode cX8_units 24 = .ok (.getfield 88, 3) := by decide +kernel
theorem dX8_units_27 : decode cX8_units 27 = .ok (.iload_n 1, 1) := by decide +kernel
theorem dX8_units_28 : decode cX8_units 28 = .ok (.laload, 1) := by decide +kernel
theorem dX8_units_29 : decode cX8_units 29 = .ok (.goto 34, 3) := by decide +kernel
theorem dX8_units_32 : decode cX8_units 32 = .ok (.iload_n 2, 1) := by decide +kernel
theorem dX8_units_33 : decode cX8_units 33 = .ok (.iconst 1, 1) := by decide +kernel
theorem dX8_units_34 : decode cX8_units 34 = .ok (.if_icmp .ne 12, 3) := by decide +kernel
theorem dX8_units_37 : decode cX8_units 37 = .ok (.aload_n 0, 1) := by decide +kernel
theorem dX8_units_38 : decode cX8_units 38 = .ok (.getfield 91, 3) := by decide +kernel
theorem dX8_units_41 : decode cX8_units 41 = .ok (.iload_n 1, 1) := by decide +kernel
theorem dX8_units_42 : decode cX8_units 42 = .ok (.laload, 1) := by decide +kernel
theorem dX8_units_43 : decode cX8_units 43 = .ok (.goto 20, 3) := by decide +kernel
theorem dX8_units_46 : decode cX8_units 46 = .ok (.iload_n 2, 1) := by decide +kernel
theorem dX8_units_47 : decode cX8_units 47 = .ok (.iconst 2, 1) := by decide +kernel
theorem dX8_units_48 : decode cX8_units 48 = .ok (.if_icmp .ne 12, 3) := by decide +kernel
theorem dX8_units_51 : decode cX8_units 51 = .ok (.aload_n 0, 1) := by decide +kernel
theorem dX8_units_52 : decode cX8_units 52 = .ok (.getfield 94, 3) := by decide +kernel
theorem dX8_units_55 : decode cX8_units 55 = .ok (.iload_n 1, 1) := by decide +kernel
theorem dX8_units_56 : decode cX8_units 56 = .ok (.laload, 1) := by decide +kernel
theorem dX8_units_57 : decode cX8_units 57 = .ok (.goto 6, 3) := by decide +kernel
theorem dX8_units_60 : decode cX8_units 60 = .ok (.ldc2_w 279, 3) := by decide +kernel
theorem dX8_units_63 : decode cX8_units 63 = .ok (.lreturn, 1) := by decide +kernel
theorem dX8_count_0 : decode cX8_count 0 = .ok (.aload_n 0, 1) := by decide +kernel
theorem dX8_count_1 : decode cX8_count 1 = .ok (.iconst 0, 1) := by decide +kernel
theorem dX8_count_2 : decode cX8_count 2 = .ok (.putfield 137, 3) := by decide +kernel
theorem dX8_count_5 : decode cX8_count 5 = .ok (.iload_n 1, 1) := by decide +kernel
theorem dX8_count_6 : decode cX8_count 6 = .ok (.tableswitch 133 0 9 #[54, 59, 64, 69, 74, 79, 84, 89, 94, 99], 54) := by decide +kernel
theorem dX8_count_60 : decode cX8_count 60 = .ok (.aload_n 0, 1) := by decide +kernel
theorem dX8_count_61 : decode cX8_count 61 = .ok (.getfield 154, 3) := by decide +kernel
theorem dX8_count_64 : decode cX8_count 64 = .ok (.ireturn, 1) := by decide +kernel
theorem dX8_count_65 : decode cX8_count 65 = .ok (.aload_n 0, 1) := by decide +kernel
theorem dX8_count_66 : decode cX8_count 66 = .ok (.getfield 23, 3) := by decide +kernel
theorem dX8_count_69 : decode cX8_count 69 = .ok (.ireturn, 1) := by decide +kernel
theorem dX8_count_70 : decode cX8_count 70 = .ok (.aload_n 0, 1) := by decide +kernel
theorem dX8_count_71 : decode cX8_count 71 = .ok (.getfield 27, 3) := by decide +kernel
theorem dX8_count_74 : decode cX8_count 74 = .ok (.ireturn, 1) := by decide +kernel
theorem dX8_count_75 : decode cX8_count 75 = .ok (.aload_n 0, 1) := by decide +kernel
theorem dX8_count_76 : decode cX8_count 76 = .ok (.getfield 30, 3) := by decide +kernel
theorem dX8_count_79 : decode cX8_count 79 = .ok (.ireturn, 1) := by decide +kernel
theorem dX8_count_80 : decode cX8_count 80 = .ok (.aload_n 0, 1) := by decide +kernel
theorem dX8_count_81 : decode cX8_count 81 = .ok (.getfield 33, 3) := by decide +kernel
theorem dX8_count_84 : decode cX8_count 84 = .ok (.ireturn, 1) := by decide +kernel
theorem dX8_count_85 : decode cX8_count 85 = .ok (.aload_n 0, 1) := by decide +kernel
theorem dX8_count_86 : decode cX8_count 86 = .ok (.getfield 253, 3) := by decide +kernel
theorem dX8_count_89 : decode cX8_count 89 = .ok (.ireturn, 1) := by decide +kernel
theorem dX8_count_90 : decode cX8_count 90 = .ok (.aload_n 0, 1) := by decide +kernel
theorem dX8_count_91 : decode cX8_count 91 = .ok (.getfield 250, 3) := by decide +kernel
theorem dX8_count_94 : decode cX8_count 94 = .ok (.ireturn, 1) := by decide +kernel
theorem dX8_count_95 : decode cX8_count 95 = .ok (.aload_n 0, 1) := by decide +kernel
theorem dX8_count_96 : decode cX8_count 96 = .ok (.getfield 199, 3) := by decide +kernel
theorem dX8_count_99 : decode cX8_count 99 = .ok (.ireturn, 1) := by decide +kernel
theorem dX8_count_100 : decode cX8_count 100 = .ok (.aload_n 0, 1) := by decide +kernel
theorem dX8_count_101 : decode cX8_count 101 = .ok (.getfield 196, 3) := by decide +kernel
theorem dX8_count_104 : decode cX8_count 104 = .ok (.ireturn, 1) := by decide +kernel
theorem dX8_count_105 : decode cX8_count 105 = .ok (.iconst 0, 1) := by decide +kernel
theorem dX8_count_106 : decode cX8_count 106 = .ok (.istore_n 2, 1) := by decide +kernel
theorem dX8_count_107 : decode cX8_count 107 = .ok (.iconst 0, 1) := by decide +kernel
theorem dX8_count_108 : decode cX8_count 108 = .ok (.istore_n 3, 1) := by decide +kernel
theorem dX8_count_109 : decode cX8_count 109 = .ok (.iload_n 3, 1) := by decide +kernel
theorem dX8_count_110 : decode cX8_count 110 = .ok (.iconst 4, 1) := by decide +kernel
theorem dX8_count_111 : decode cX8_count 111 = .ok (.if_icmp .ge 26, 3) := by decide +kernel
theorem dX8_count_114 : decode cX8_count 114 = .ok (.iload_n 2, 1) := by decide +kernel
theorem dX8_count_115 : decode cX8_count 115 = .ok (.aload_n 0, 1) := by decide +kernel
theorem dX8_count_116 : decode cX8_count 116 = .ok (.getfield 9, 3) := by decide +kernel
theorem dX8_count_119 : decode cX8_count 119 = .ok (.iload_n 3, 1) := by decide +kernel
theorem dX8_count_120 : decode cX8_count 120 = .ok (.iaload, 1) := by decide +kernel
theorem dX8_count_121 : decode cX8_count 121 = .ok (.ifCond .lt 7, 3) := by decide +kernel
theorem dX8_count_124 : decode cX8_count 124 = .ok (.iconst 1, 1) := by decide +kernel
theorem dX8_count_125 : decode cX8_count 125 = .ok (.goto 4, 3) := by decide +kernel
theorem dX8_count_128 : decode cX8_count 128 = .ok (.iconst 0, 1) := by decide +kernel
theorem dX8_count_129 : decode cX8_count 129 = .ok (.iadd, 1) := by decide +kernel
theorem dX8_count_130 : decode cX8_count 130 = .ok (.istore_n 2, 1) := by decide +kernel
theorem dX8_count_131 : decode cX8_count 131 = .ok (.iinc 3 1, 3) := by decide +kernel
theorem dX8_count_134 : decode cX8_count 134 = .ok (.goto (-25), 3) := by decide +kernel
theorem dX8_count_137 : decode cX8_count 137 = .ok (.iload_n 2, 1) := by decide +kernel
theorem dX8_count_138 : decode cX8_count 138 = .ok (.ireturn, 1) := by decide +kernel
theorem dX8_count_139 : decode cX8_count 139 = .ok (.iconst (-1), 1) := by decide +kernel
theorem dX8_count_140 : decode cX8_count 140 = .ok (.ireturn, 1) := by decide +kernel
theorem dX8_gatewayOf_0 : decode cX8_gatewayOf 0 = .ok (.aload_n 0, 1) := by decide +kernel
theorem dX8_gatewayOf_1 : decode cX8_gatewayOf 1 = .ok (.iconst 0, 1) := by decide +kernel
theorem dX8_gatewayOf_2 : decode cX8_gatewayOf 2 = .ok (.putfield 137, 3) := by decide +kernel
theorem dX8_gatewayOf_5 : decode cX8_gatewayOf 5 = .ok (.iload_n 1, 1) := by decide +kernel
theorem dX8_gatewayOf_6 : decode cX8_gatewayOf 6 = .ok (.invokestatic 172, 3) := by decide +kernel
theorem dX8_gatewayOf_9 : decode cX8_gatewayOf 9 = .ok (.ifCond .ne 6, 3) := by decide +kernel
theorem dX8_gatewayOf_12 : decode cX8_gatewayOf 12 = .ok (.bipush (-2), 2) := by decide +kernel
theorem dX8_gatewayOf_14 : decode cX8_gatewayOf 14 = .ok (.ireturn, 1) := by decide +kernel
theorem dX8_gatewayOf_15 : decode cX8_gatewayOf 15 = .ok (.iconst 0, 1) := by decide +kernel
theorem dX8_gatewayOf_16 : decode cX8_gatewayOf 16 = .ok (.istore_n 3, 1) := by decide +kernel
theorem dX8_gatewayOf_17 : decode cX8_gatewayOf 17 = .ok (.iconst 0, 1) := by decide +kernel
theorem dX8_gatewayOf_18 : decode cX8_gatewayOf 18 = .ok (.istore 4, 2) := by decide +kernel
theorem dX8_gatewayOf_20 : decode cX8_gatewayOf 20 = .ok (.iload 4, 2) := by decide +kernel
theorem dX8_gatewayOf_22 : decode cX8_gatewayOf 22 = .ok (.aload_n 0, 1) := by decide +kernel
theorem dX8_gatewayOf_23 : decode cX8_gatewayOf 23 = .ok (.getfield 154, 3) := by decide +kernel
theorem dX8_gatewayOf_26 : decode cX8_gatewayOf 26 = .ok (.if_icmp .ge 28, 3) := by decide +kernel
theorem dX8_gatewayOf_29 : decode cX8_gatewayOf 29 = .ok (.iload_n 3, 1) := by decide +kernel
theorem dX8_gatewayOf_30 : decode cX8_gatewayOf 30 = .ok (.aload_n 0, 1) := by decide +kernel
theorem dX8_gatewayOf_31 : decode cX8_gatewayOf 31 = .ok (.getfield 48, 3) := by decide +kernel
theorem dX8_gatewayOf_34 : decode cX8_gatewayOf 34 = .ok (.iload 4, 2) := by decide +kernel
theorem dX8_gatewayOf_36 : decode cX8_gatewayOf 36 = .ok (.iaload, 1) := by decide +kernel
theorem dX8_gatewayOf_37 : decode cX8_gatewayOf 37 = .ok (.iload_n 1, 1) := by decide +kernel
theorem dX8_gatewayOf_38 : decode cX8_gatewayOf 38 = .ok (.if_icmp .ne 7, 3) := by decide +kernel
theorem dX8_gatewayOf_41 : decode cX8_gatewayOf 41 = .ok (.iconst 1, 1) := by decide +kernel
theorem dX8_gatewayOf_42 : decode cX8_gatewayOf 42 = .ok (.goto 4, 3) := by decide +kernel
theorem dX8_gatewayOf_45 : decode cX8_gatewayOf 45 = .ok (.iconst 0, 1) := by decide +kernel
theorem dX8_gatewayOf_46 : decode cX8_gatewayOf 46 = .ok (.iadd, 1) := by decide +kernel
theorem dX8_gatewayOf_47 : decode cX8_gatewayOf 47 = .ok (.istore_n 3, 1) := by decide +kernel
theorem dX8_gatewayOf_48 : decode cX8_gatewayOf 48 = .ok (.iinc 4 1, 3) := by decide +kernel
theorem dX8_gatewayOf_51 : decode cX8_gatewayOf 51 = .ok (.goto (-31), 3) := by decide +kernel
theorem dX8_gatewayOf_54 : decode cX8_gatewayOf 54 = .ok (.iload_n 2, 1) := by decide +kernel
theorem dX8_gatewayOf_55 : decode cX8_gatewayOf 55 = .ok (.ifCond .ne 12, 3) := by decide +kernel
theorem dX8_gatewayOf_58 : decode cX8_gatewayOf 58 = .ok (.aload_n 0, 1) := by decide +kernel
theorem dX8_gatewayOf_59 : decode cX8_gatewayOf 59 = .ok (.getfield 75, 3) := by decide +kernel
theorem dX8_gatewayOf_62 : decode cX8_gatewayOf 62 = .ok (.iload_n 1, 1) := by decide +kernel
theorem dX8_gatewayOf_63 : decode cX8_gatewayOf 63 = .ok (.iaload, 1) := by decide +kernel
theorem dX8_gatewayOf_64 : decode cX8_gatewayOf 64 = .ok (.goto 36, 3) := by decide +kernel
theorem dX8_gatewayOf_67 : decode cX8_gatewayOf 67 = .ok (.iload_n 2, 1) := by decide +kernel
theorem dX8_gatewayOf_68 : decode cX8_gatewayOf 68 = .ok (.iconst 1, 1) := by decide +kernel
theorem dX8_gatewayOf_69 : decode cX8_gatewayOf 69 = .ok (.if_icmp .ne 20, 3) := by decide +kernel
theorem dX8_gatewayOf_72 : decode cX8_gatewayOf 72 = .ok (.aload_n 0, 1) := by decide +kernel
theorem dX8_gatewayOf_73 : decode cX8_gatewayOf 73 = .ok (.getfield 78, 3) := by decide +kernel
theorem dX8_gatewayOf_76 : decode cX8_gatewayOf 76 = .ok (.iload_n 1, 1) := by decide +kernel
theorem dX8_gatewayOf_77 : decode cX8_gatewayOf 77 = .ok (.baload, 1) := by decide +kernel
theorem dX8_gatewayOf_78 : decode cX8_gatewayOf 78 = .ok (.ifCond .eq 7, 3) := by decide +kernel
theorem dX8_gatewayOf_81 : decode cX8_gatewayOf 81 = .ok (.iconst 1, 1) := by decide +kernel
theorem dX8_gatewayOf_82 : decode cX8_gatewayOf 82 = .ok (.goto 18, 3) := by decide +kernel
theorem dX8_gatewayOf_85 : decode cX8_gatewayOf 85 = .ok (.iconst 0, 1) := by decide +kernel
theorem dX8_gatewayOf_86 : decode cX8_gatewayOf 86 = .ok (.goto 14, 3) := by decide +kernel
theorem dX8_gatewayOf_89 : decode cX8_gatewayOf 89 = .ok (.iload_n 2, 1) := by decide +kernel
theorem dX8_gatewayOf_90 : decode cX8_gatewayOf 90 = .ok (.iconst 2, 1) := by decide +kernel
theorem dX8_gatewayOf_91 : decode cX8_gatewayOf 91 = .ok (.if_icmp .ne 7, 3) := by decide +kernel
theorem dX8_gatewayOf_94 : decode cX8_gatewayOf 94 = .ok (.iload_n 3, 1) := by decide +kernel
theorem dX8_gatewayOf_95 : decode cX8_gatewayOf 95 = .ok (.goto 5, 3) := by decide +kernel
theorem dX8_gatewayOf_98 : decode cX8_gatewayOf 98 = .ok (.bipush (-2), 2) := by decide +kernel
theorem dX8_gatewayOf_100 : decode cX8_gatewayOf 100 = .ok (.ireturn, 1) := by decide +kernel
theorem dJ6_bitCount_0f7a4_0 : decode cJ6_bitCount_0f7a4 0 = .ok (.iload_n 0, 1) := by decide +kernel
theorem dJ6_bitCount_0f7a4_1 : decode cJ6_bitCount_0f7a4 1 = .ok (.iload_n 0, 1) := by decide +kernel
theorem dJ6_bitCount_0f7a4_2 : decode cJ6_bitCount_0f7a4 2 = .ok (.iconst 1, 1) := by decide +kernel
theorem dJ6_bitCount_0f7a4_3 : decode cJ6_bitCount_0f7a4 3 = .ok (.iushr, 1) := by decide +kernel
theorem dJ6_bitCount_0f7a4_4 : decode cJ6_bitCount_0f7a4 4 = .ok (.ldc_w 265, 3) := by decide +kernel
theorem dJ6_bitCount_0f7a4_7 : decode cJ6_bitCount_0f7a4 7 = .ok (.iand, 1) := by decide +kernel
theorem dJ6_bitCount_0f7a4_8 : decode cJ6_bitCount_0f7a4 8 = .ok (.isub, 1) := by decide +kernel
theorem dJ6_bitCount_0f7a4_9 : decode cJ6_bitCount_0f7a4 9 = .ok (.istore_n 0, 1) := by decide +kernel
theorem dJ6_bitCount_0f7a4_10 : decode cJ6_bitCount_0f7a4 10 = .ok (.iload_n 0, 1) := by decide +kernel
theorem dJ6_bitCount_0f7a4_11 : decode cJ6_bitCount_0f7a4 11 = .ok (.ldc_w 266, 3) := by decide +kernel
theorem dJ6_bitCount_0f7a4_14 : decode cJ6_bitCount_0f7a4 14 = .ok (.iand, 1) := by decide +kernel
theorem dJ6_bitCount_0f7a4_15 : decode cJ6_bitCount_0f7a4 15 = .ok (.iload_n 0, 1) := by decide +kernel
theorem dJ6_bitCount_0f7a4_16 : decode cJ6_bitCount_0f7a4 16 = .ok (.iconst 2, 1) := by decide +kernel
theorem dJ6_bitCount_0f7a4_17 : decode cJ6_bitCount_0f7a4 17 = .ok (.iushr, 1) := by decide +kernel
theorem dJ6_bitCount_0f7a4_18 : decode cJ6_bitCount_0f7a4 18 = .ok (.ldc_w 266, 3) := by decide +kernel
theorem dJ6_bitCount_0f7a4_21 : decode cJ6_bitCount_0f7a4 21 = .ok (.iand, 1) := by decide +kernel
theorem dJ6_bitCount_0f7a4_22 : decode cJ6_bitCount_0f7a4 22 = .ok (.iadd, 1) := by decide +kernel
theorem dJ6_bitCount_0f7a4_23 : decode cJ6_bitCount_0f7a4 23 = .ok (.istore_n 0, 1) := by decide +kernel
theorem dJ6_bitCount_0f7a4_24 : decode cJ6_bitCount_0f7a4 24 = .ok (.iload_n 0, 1) := by decide +kernel
theorem dJ6_bitCount_0f7a4_25 : decode cJ6_bitCount_0f7a4 25 = .ok (.iload_n 0, 1) := by decide +kernel
theorem dJ6_bitCount_0f7a4_26 : decode cJ6_bitCount_0f7a4 26 = .ok (.iconst 4, 1) := by decide +kernel
theorem dJ6_bitCount_0f7a4_27 : decode cJ6_bitCount_0f7a4 27 = .ok (.iushr, 1) := by decide +kernel
theorem dJ6_bitCount_0f7a4_28 : decode cJ6_bitCount_0f7a4 28 = .ok (.iadd, 1) := by decide +kernel
theorem dJ6_bitCount_0f7a4_29 : decode cJ6_bitCount_0f7a4 29 = .ok (.ldc_w 267, 3) := by decide +kernel
theorem dJ6_bitCount_0f7a4_32 : decode cJ6_bitCount_0f7a4 32 = .ok (.iand, 1) := by decide +kernel
theorem dJ6_bitCount_0f7a4_33 : decode cJ6_bitCount_0f7a4 33 = .ok (.istore_n 0, 1) := by decide +kernel
theorem dJ6_bitCount_0f7a4_34 : decode cJ6_bitCount_0f7a4 34 = .ok (.iload_n 0, 1) := by decide +kernel
theorem dJ6_bitCount_0f7a4_35 : decode cJ6_bitCount_0f7a4 35 = .ok (.iload_n 0, 1) := by decide +kernel
theorem dJ6_bitCount_0f7a4_36 : decode cJ6_bitCount_0f7a4 36 = .ok (.bipush 8, 2) := by decide +kernel
theorem dJ6_bitCount_0f7a4_38 : decode cJ6_bitCount_0f7a4 38 = .ok (.iushr, 1) := by decide +kernel
theorem dJ6_bitCount_0f7a4_39 : decode cJ6_bitCount_0f7a4 39 = .ok (.iadd, 1) := by decide +kernel
theorem dJ6_bitCount_0f7a4_40 : decode cJ6_bitCount_0f7a4 40 = .ok (.istore_n 0, 1) := by decide +kernel
theorem dJ6_bitCount_0f7a4_41 : decode cJ6_bitCount_0f7a4 41 = .ok (.iload_n 0, 1) := by decide +kernel
theorem dJ6_bitCount_0f7a4_42 : decode cJ6_bitCount_0f7a4 42 = .ok (.iload_n 0, 1) := by decide +kernel
theorem dJ6_bitCount_0f7a4_43 : decode cJ6_bitCount_0f7a4 43 = .ok (.bipush 16, 2) := by decide +kernel
theorem dJ6_bitCount_0f7a4_45 : decode cJ6_bitCount_0f7a4 45 = .ok (.iushr, 1) := by decide +kernel
theorem dJ6_bitCount_0f7a4_46 : decode cJ6_bitCount_0f7a4 46 = .ok (.iadd, 1) := by decide +kernel
theorem dJ6_bitCount_0f7a4_47 : decode cJ6_bitCount_0f7a4 47 = .ok (.istore_n 0, 1) := by decide +kernel
theorem dJ6_bitCount_0f7a4_48 : decode cJ6_bitCount_0f7a4 48 = .ok (.iload_n 0, 1) := by decide +kernel
theorem dJ6_bitCount_0f7a4_49 : decode cJ6_bitCount_0f7a4 49 = .ok (.bipush 63, 2) := by decide +kernel
theorem dJ6_bitCount_0f7a4_51 : decode cJ6_bitCount_0f7a4 51 = .ok (.iand, 1) := by decide +kernel
theorem dJ6_bitCount_0f7a4_52 : decode cJ6_bitCount_0f7a4 52 = .ok (.ireturn, 1) := by decide +kernel
theorem dJ9_floorDiv_f86c9_0 : decode cJ9_floorDiv_f86c9 0 = .ok (.lload_n 0, 1) := by decide +kernel
theorem dJ9_floorDiv_f86c9_1 : decode cJ9_floorDiv_f86c9 1 = .ok (.lload_n 2, 1) := by decide +kernel
theorem dJ9_floorDiv_f86c9_2 : decode cJ9_floorDiv_f86c9 2 = .ok (.ldiv, 1) := by decide +kernel
theorem dJ9_floorDiv_f86c9_3 : decode cJ9_floorDiv_f86c9 3 = .ok (.lstore 4, 2) := by decide +kernel
theorem dJ9_floorDiv_f86c9_5 : decode cJ9_floorDiv_f86c9 5 = .ok (.lload_n 0, 1) := by decide +kernel
theorem dJ9_floorDiv_f86c9_6 : decode cJ9_floorDiv_f86c9 6 = .ok (.lload_n 2, 1) := by decide +kernel
theorem dJ9_floorDiv_f86c9_7 : decode cJ9_floorDiv_f86c9 7 = .ok (.lxor, 1) := by decide +kernel
theorem dJ9_floorDiv_f86c9_8 : decode cJ9_floorDiv_f86c9 8 = .ok (.lconst 0, 1) := by decide +kernel
theorem dJ9_floorDiv_f86c9_9 : decode cJ9_floorDiv_f86c9 9 = .ok (.lcmp, 1) := by decide +kernel
theorem dJ9_floorDiv_f86c9_10 : decode cJ9_floorDiv_f86c9 10 = .ok (.ifCond .ge 17, 3) := by decide +kernel
theorem dJ9_floorDiv_f86c9_13 : decode cJ9_floorDiv_f86c9 13 = .ok (.lload 4, 2) := by decide +kernel
theorem dJ9_floorDiv_f86c9_15 : decode cJ9_floorDiv_f86c9 15 = .ok (.lload_n 2, 1) := by decide +kernel
theorem dJ9_floorDiv_f86c9_16 : decode cJ9_floorDiv_f86c9 16 = .ok (.lmul, 1) := by decide +kernel
theorem dJ9_floorDiv_f86c9_17 : decode cJ9_floorDiv_f86c9 17 = .ok (.lload_n 0, 1) := by decide +kernel
