theorem dX7_fewest_45 : decode cX7_fewest 45 = .ok (.aload_n 0, 1) := by decide +kernel
theorem dX7_fewest_46 : decode cX7_fewest 46 = .ok (.getfield 12, 3) := by decide +kernel
theorem dX7_fewest_49 : decode cX7_fewest 49 = .ok (.invokevirtual 138, 3) := by decide +kernel
theorem dX7_fewest_52 : decode cX7_fewest 52 = .ok (.aload_n 0, 1) := by decide +kernel
theorem dX7_fewest_53 : decode cX7_fewest 53 = .ok (.getfield 155, 3) := by decide +kernel
theorem dX7_fewest_56 : decode cX7_fewest 56 = .ok (.ifnonnull 14, 3) := by decide +kernel
theorem dX7_fewest_59 : decode cX7_fewest 59 = .ok (.aload_n 0, 1) := by decide +kernel
theorem dX7_fewest_60 : decode cX7_fewest 60 = .ok (.new 159, 3) := by decide +kernel
theorem dX7_fewest_63 : decode cX7_fewest 63 = .ok (.dup, 1) := by decide +kernel
theorem dX7_fewest_64 : decode cX7_fewest 64 = .ok (.invokespecial 161, 3) := by decide +kernel
theorem dX7_fewest_67 : decode cX7_fewest 67 = .ok (.putfield 155, 3) := by decide +kernel
theorem dX7_fewest_70 : decode cX7_fewest 70 = .ok (.aload_n 0, 1) := by decide +kernel
theorem dX7_fewest_71 : decode cX7_fewest 71 = .ok (.getfield 155, 3) := by decide +kernel
theorem dX7_fewest_74 : decode cX7_fewest 74 = .ok (.aload_n 0, 1) := by decide +kernel
theorem dX7_fewest_75 : decode cX7_fewest 75 = .ok (.getfield 19, 3) := by decide +kernel
theorem dX7_fewest_78 : decode cX7_fewest 78 = .ok (.lload_n 1, 1) := by decide +kernel
theorem dX7_fewest_79 : decode cX7_fewest 79 = .ok (.invokevirtual 162, 3) := by decide +kernel
theorem dX7_fewest_82 : decode cX7_fewest 82 = .ok (.istore_n 3, 1) := by decide +kernel
theorem dX7_fewest_83 : decode cX7_fewest 83 = .ok (.aload_n 0, 1) := by decide +kernel
theorem dX7_fewest_84 : decode cX7_fewest 84 = .ok (.aload_n 0, 1) := by decide +kernel
theorem dX7_fewest_85 : decode cX7_fewest 85 = .ok (.getfield 155, 3) := by decide +kernel
theorem dX7_fewest_88 : decode cX7_fewest 88 = .ok (.getfield 166, 3) := by decide +kernel
theorem dX7_fewest_91 : decode cX7_fewest 91 = .ok (.putfield 143, 3) := by decide +kernel
theorem dX7_fewest_94 : decode cX7_fewest 94 = .ok (.iload_n 3, 1) := by decide +kernel
theorem dX7_fewest_95 : decode cX7_fewest 95 = .ok (.ifCond .ne 6, 3) := by decide +kernel
theorem dX7_fewest_98 : decode cX7_fewest 98 = .ok (.bipush (-4), 2) := by decide +kernel
theorem dX7_fewest_100 : decode cX7_fewest 100 = .ok (.ireturn, 1) := by decide +kernel
theorem dX7_fewest_101 : decode cX7_fewest 101 = .ok (.aload_n 0, 1) := by decide +kernel
theorem dX7_fewest_102 : decode cX7_fewest 102 = .ok (.getfield 155, 3) := by decide +kernel
theorem dX7_fewest_105 : decode cX7_fewest 105 = .ok (.aload_n 0, 1) := by decide +kernel
theorem dX7_fewest_106 : decode cX7_fewest 106 = .ok (.getfield 33, 3) := by decide +kernel
theorem dX7_fewest_109 : decode cX7_fewest 109 = .ok (.invokevirtual 167, 3) := by decide +kernel
theorem dX7_fewest_112 : decode cX7_fewest 112 = .ok (.aload_n 0, 1) := by decide +kernel
theorem dX7_fewest_113 : decode cX7_fewest 113 = .ok (.getfield 33, 3) := by decide +kernel
theorem dX7_fewest_116 : decode cX7_fewest 116 = .ok (.getfield 150, 3) := by decide +kernel
theorem dX7_fewest_119 : decode cX7_fewest 119 = .ok (.ireturn, 1) := by decide +kernel
theorem dX7_frame_0 : decode cX7_frame 0 = .ok (.aload_n 0, 1) := by decide +kernel
theorem dX7_frame_1 : decode cX7_frame 1 = .ok (.getfield 33, 3) := by decide +kernel
theorem dX7_frame_4 : decode cX7_frame 4 = .ok (.iload_n 1, 1) := by decide +kernel
theorem dX7_frame_5 : decode cX7_frame 5 = .ok (.invokevirtual 171, 3) := by decide +kernel
theorem dX7_frame_8 : decode cX7_frame 8 = .ok (.ifCond .eq 15, 3) := by decide +kernel
theorem dX7_frame_11 : decode cX7_frame 11 = .ok (.aload_n 0, 1) := by decide +kernel
theorem dX7_frame_12 : decode cX7_frame 12 = .ok (.getfield 33, 3) := by decide +kernel
theorem dX7_frame_15 : decode cX7_frame 15 = .ok (.getfield 174, 3) := by decide +kernel
theorem dX7_frame_18 : decode cX7_frame 18 = .ok (.iload_n 1, 1) := by decide +kernel
theorem dX7_frame_19 : decode cX7_frame 19 = .ok (.iaload, 1) := by decide +kernel
theorem dX7_frame_20 : decode cX7_frame 20 = .ok (.goto 4, 3) := by decide +kernel
theorem dX7_frame_23 : decode cX7_frame 23 = .ok (.iconst (-1), 1) := by decide +kernel
theorem dX7_frame_24 : decode cX7_frame 24 = .ok (.ireturn, 1) := by decide +kernel
theorem dX7_frameOf_0 : decode cX7_frameOf 0 = .ok (.aload_n 0, 1) := by decide +kernel
theorem dX7_frameOf_1 : decode cX7_frameOf 1 = .ok (.getfield 26, 3) := by decide +kernel
theorem dX7_frameOf_4 : decode cX7_frameOf 4 = .ok (.iload_n 1, 1) := by decide +kernel
theorem dX7_frameOf_5 : decode cX7_frameOf 5 = .ok (.iconst 0, 1) := by decide +kernel
theorem dX7_frameOf_6 : decode cX7_frameOf 6 = .ok (.iconst 0, 1) := by decide +kernel
theorem dX7_frameOf_7 : decode cX7_frameOf 7 = .ok (.invokevirtual 117, 3) := by decide +kernel
theorem dX7_frameOf_10 : decode cX7_frameOf 10 = .ok (.istore_n 2, 1) := by decide +kernel
theorem dX7_frameOf_11 : decode cX7_frameOf 11 = .ok (.iload_n 2, 1) := by decide +kernel
theorem dX7_frameOf_12 : decode cX7_frameOf 12 = .ok (.ifCond .eq 5, 3) := by decide +kernel
theorem dX7_frameOf_15 : decode cX7_frameOf 15 = .ok (.iload_n 2, 1) := by decide +kernel
theorem dX7_frameOf_16 : decode cX7_frameOf 16 = .ok (.ireturn, 1) := by decide +kernel
theorem dX7_frameOf_17 : decode cX7_frameOf 17 = .ok (.aload_n 0, 1) := by decide +kernel
theorem dX7_frameOf_18 : decode cX7_frameOf 18 = .ok (.getfield 26, 3) := by decide +kernel
theorem dX7_frameOf_21 : decode cX7_frameOf 21 = .ok (.iload_n 1, 1) := by decide +kernel
theorem dX7_frameOf_22 : decode cX7_frameOf 22 = .ok (.invokevirtual 177, 3) := by decide +kernel
theorem dX7_frameOf_25 : decode cX7_frameOf 25 = .ok (.bipush 12, 2) := by decide +kernel
theorem dX7_frameOf_27 : decode cX7_frameOf 27 = .ok (.invokestatic 181, 3) := by decide +kernel
theorem dX7_frameOf_30 : decode cX7_frameOf 30 = .ok (.istore_n 3, 1) := by decide +kernel
theorem dX7_frameOf_31 : decode cX7_frameOf 31 = .ok (.iload_n 3, 1) := by decide +kernel
theorem dX7_frameOf_32 : decode cX7_frameOf 32 = .ok (.ifCond .ne 6, 3) := by decide +kernel
theorem dX7_frameOf_35 : decode cX7_frameOf 35 = .ok (.bipush (-8), 2) := by decide +kernel
theorem dX7_frameOf_37 : decode cX7_frameOf 37 = .ok (.ireturn, 1) := by decide +kernel
theorem dX7_frameOf_38 : decode cX7_frameOf 38 = .ok (.aload_n 0, 1) := by decide +kernel
theorem dX7_frameOf_39 : decode cX7_frameOf 39 = .ok (.getfield 26, 3) := by decide +kernel
theorem dX7_frameOf_42 : decode cX7_frameOf 42 = .ok (.iload_n 1, 1) := by decide +kernel
theorem dX7_frameOf_43 : decode cX7_frameOf 43 = .ok (.iload_n 3, 1) := by decide +kernel
theorem dX7_frameOf_44 : decode cX7_frameOf 44 = .ok (.aload_n 0, 1) := by decide +kernel
theorem dX7_frameOf_45 : decode cX7_frameOf 45 = .ok (.getfield 12, 3) := by decide +kernel
theorem dX7_frameOf_48 : decode cX7_frameOf 48 = .ok (.invokevirtual 131, 3) := by decide +kernel
theorem dX7_frameOf_51 : decode cX7_frameOf 51 = .ok (.invokevirtual 187, 3) := by decide +kernel
theorem dX7_frameOf_54 : decode cX7_frameOf 54 = .ok (.ifCond .ne 6, 3) := by decide +kernel
theorem dX7_frameOf_57 : decode cX7_frameOf 57 = .ok (.bipush (-4), 2) := by decide +kernel
theorem dX7_frameOf_59 : decode cX7_frameOf 59 = .ok (.ireturn, 1) := by decide +kernel
theorem dX7_frameOf_60 : decode cX7_frameOf 60 = .ok (.iconst 0, 1) := by decide +kernel
theorem dX7_frameOf_61 : decode cX7_frameOf 61 = .ok (.istore 4, 2) := by decide +kernel
theorem dX7_frameOf_63 : decode cX7_frameOf 63 = .ok (.iload 4, 2) := by decide +kernel
theorem dX7_frameOf_65 : decode cX7_frameOf 65 = .ok (.iload_n 3, 1) := by decide +kernel
theorem dX7_frameOf_66 : decode cX7_frameOf 66 = .ok (.if_icmp .ge 30, 3) := by decide +kernel
theorem dX7_frameOf_69 : decode cX7_frameOf 69 = .ok (.aload_n 0, 1) := by decide +kernel
theorem dX7_frameOf_70 : decode cX7_frameOf 70 = .ok (.getfield 33, 3) := by decide +kernel
theorem dX7_frameOf_73 : decode cX7_frameOf 73 = .ok (.getfield 174, 3) := by decide +kernel
theorem dX7_frameOf_76 : decode cX7_frameOf 76 = .ok (.iload 4, 2) := by decide +kernel
theorem dX7_frameOf_78 : decode cX7_frameOf 78 = .ok (.aload_n 0, 1) := by decide +kernel
theorem dX7_frameOf_79 : decode cX7_frameOf 79 = .ok (.getfield 26, 3) := by decide +kernel
theorem dX7_frameOf_82 : decode cX7_frameOf 82 = .ok (.iload_n 1, 1) := by decide +kernel
theorem dX7_frameOf_83 : decode cX7_frameOf 83 = .ok (.iload 4, 2) := by decide +kernel
theorem dX7_frameOf_85 : decode cX7_frameOf 85 = .ok (.invokevirtual 121, 3) := by decide +kernel
theorem dX7_frameOf_88 : decode cX7_frameOf 88 = .ok (.l2i, 1) := by decide +kernel
theorem dX7_frameOf_89 : decode cX7_frameOf 89 = .ok (.iastore, 1) := by decide +kernel
theorem dX7_frameOf_90 : decode cX7_frameOf 90 = .ok (.iinc 4 1, 3) := by decide +kernel
theorem dX7_frameOf_93 : decode cX7_frameOf 93 = .ok (.goto (-30), 3) := by decide +kernel
theorem dX7_frameOf_96 : decode cX7_frameOf 96 = .ok (.aload_n 0, 1) := by decide +kernel
theorem dX7_frameOf_97 : decode cX7_frameOf 97 = .ok (.getfield 33, 3) := by decide +kernel
theorem dX7_frameOf_100 : decode cX7_frameOf 100 = .ok (.iload_n 3, 1) := by decide +kernel
theorem dX7_frameOf_101 : decode cX7_frameOf 101 = .ok (.putfield 150, 3) := by decide +kernel
theorem dX7_frameOf_104 : decode cX7_frameOf 104 = .ok (.iload_n 3, 1) := by decide +kernel
theorem dX7_frameOf_105 : decode cX7_frameOf 105 = .ok (.ireturn, 1) := by decide +kernel
theorem dX7_proof_0 : decode cX7_proof 0 = .ok (.aload_n 0, 1) := by decide +kernel
theorem dX7_proof_1 : decode cX7_proof 1 = .ok (.getfield 26, 3) := by decide +kernel
theorem dX7_proof_4 : decode cX7_proof 4 = .ok (.iload_n 1, 1) := by decide +kernel
theorem dX7_proof_5 : decode cX7_proof 5 = .ok (.aload_n 0, 1) := by decide +kernel
theorem dX7_proof_6 : decode cX7_proof 6 = .ok (.getfield 12, 3) := by decide +kernel
theorem dX7_proof_9 : decode cX7_proof 9 = .ok (.getfield 75, 3) := by decide +kernel
theorem dX7_proof_12 : decode cX7_proof 12 = .ok (.ldc 191, 2) := by decide +kernel
theorem dX7_proof_14 : decode cX7_proof 14 = .ok (.invokevirtual 117, 3) := by decide +kernel
theorem dX7_proof_17 : decode cX7_proof 17 = .ok (.istore_n 2, 1) := by decide +kernel
theorem dX7_proof_18 : decode cX7_proof 18 = .ok (.iload_n 2, 1) := by decide +kernel
theorem dX7_proof_19 : decode cX7_proof 19 = .ok (.ifCond .eq 6, 3) := by decide +kernel
theorem dX7_proof_22 : decode cX7_proof 22 = .ok (.iload_n 2, 1) := by decide +kernel
theorem dX7_proof_23 : decode cX7_proof 23 = .ok (.i2l, 1) := by decide +kernel
theorem dX7_proof_24 : decode cX7_proof 24 = .ok (.lreturn, 1) := by decide +kernel
theorem dX7_proof_25 : decode cX7_proof 25 = .ok (.lconst 0, 1) := by decide +kernel
theorem dX7_proof_26 : decode cX7_proof 26 = .ok (.lstore_n 3, 1) := by decide +kernel
theorem dX7_proof_27 : decode cX7_proof 27 = .ok (.iconst 0, 1) := by decide +kernel
theorem dX7_proof_28 : decode cX7_proof 28 = .ok (.istore 5, 2) := by decide +kernel
theorem dX7_proof_30 : decode cX7_proof 30 = .ok (.iload 5, 2) := by decide +kernel
theorem dX7_proof_32 : decode cX7_proof 32 = .ok (.aload_n 0, 1) := by decide +kernel
theorem dX7_proof_33 : decode cX7_proof 33 = .ok (.getfield 12, 3) := by decide +kernel
theorem dX7_proof_36 : decode cX7_proof 36 = .ok (.getfield 75, 3) := by decide +kernel
theorem dX7_proof_39 : decode cX7_proof 39 = .ok (.if_icmp .ge 52, 3) := by decide +kernel
theorem dX7_proof_42 : decode cX7_proof 42 = .ok (.aload_n 0, 1) := by decide +kernel
theorem dX7_proof_43 : decode cX7_proof 43 = .ok (.getfield 26, 3) := by decide +kernel
theorem dX7_proof_46 : decode cX7_proof 46 = .ok (.iload_n 1, 1) := by decide +kernel
theorem dX7_proof_47 : decode cX7_proof 47 = .ok (.iload 5, 2) := by decide +kernel
theorem dX7_proof_49 : decode cX7_proof 49 = .ok (.invokevirtual 121, 3) := by decide +kernel
theorem dX7_proof_52 : decode cX7_proof 52 = .ok (.l2i, 1) := by decide +kernel
theorem dX7_proof_53 : decode cX7_proof 53 = .ok (.istore 6, 2) := by decide +kernel
theorem dX7_proof_55 : decode cX7_proof 55 = .ok (.aload_n 0, 1) := by decide +kernel
theorem dX7_proof_56 : decode cX7_proof 56 = .ok (.getfield 37, 3) := by decide +kernel
theorem dX7_proof_59 : decode cX7_proof 59 = .ok (.iload 5, 2) := by decide +kernel
theorem dX7_proof_61 : decode cX7_proof 61 = .ok (.iload 6, 2) := by decide +kernel
theorem dX7_proof_63 : decode cX7_proof 63 = .ok (.iastore, 1) := by decide +kernel
theorem dX7_proof_64 : decode cX7_proof 64 = .ok (.lload_n 3, 1) := by decide +kernel
theorem dX7_proof_65 : decode cX7_proof 65 = .ok (.aload_n 0, 1) := by decide +kernel
theorem dX7_proof_66 : decode cX7_proof 66 = .ok (.getfield 12, 3) := by decide +kernel
theorem dX7_proof_69 : decode cX7_proof 69 = .ok (.getfield 78, 3) := by decide +kernel
theorem dX7_proof_72 : decode cX7_proof 72 = .ok (.iload 5, 2) := by decide +kernel
theorem dX7_proof_74 : decode cX7_proof 74 = .ok (.aaload, 1) := by decide +kernel
theorem dX7_proof_75 : decode cX7_proof 75 = .ok (.getfield 125, 3) := by decide +kernel
theorem dX7_proof_78 : decode cX7_proof 78 = .ok (.i2l, 1) := by decide +kernel
theorem dX7_proof_79 : decode cX7_proof 79 = .ok (.iload 6, 2) := by decide +kernel
theorem dX7_proof_81 : decode cX7_proof 81 = .ok (.i2l, 1) := by decide +kernel
theorem dX7_proof_82 : decode cX7_proof 82 = .ok (.lmul, 1) := by decide +kernel
theorem dX7_proof_83 : decode cX7_proof 83 = .ok (.ladd, 1) := by decide +kernel
theorem dX7_proof_84 : decode cX7_proof 84 = .ok (.lstore_n 3, 1) := by decide +kernel
theorem dX7_proof_85 : decode cX7_proof 85 = .ok (.iinc 5 1, 3) := by decide +kernel
theorem dX7_proof_88 : decode cX7_proof 88 = .ok (.goto (-58), 3) := by decide +kernel
theorem dX7_proof_91 : decode cX7_proof 91 = .ok (.aload_n 0, 1) := by decide +kernel
theorem dX7_proof_92 : decode cX7_proof 92 = .ok (.getfield 19, 3) := by decide +kernel
theorem dX7_proof_95 : decode cX7_proof 95 = .ok (.aload_n 0, 1) := by decide +kernel
theorem dX7_proof_96 : decode cX7_proof 96 = .ok (.getfield 12, 3) := by decide +kernel
theorem dX7_proof_99 : decode cX7_proof 99 = .ok (.invokevirtual 138, 3) := by decide +kernel
theorem dX7_proof_102 : decode cX7_proof 102 = .ok (.aload_n 0, 1) := by decide +kernel
theorem dX7_proof_103 : decode cX7_proof 103 = .ok (.getfield 19, 3) := by decide +kernel
theorem dX7_proof_106 : decode cX7_proof 106 = .ok (.getfield 192, 3) := by decide +kernel
theorem dX7_proof_109 : decode cX7_proof 109 = .ok (.aload_n 0, 1) := by decide +kernel
theorem dX7_proof_110 : decode cX7_proof 110 = .ok (.getfield 19, 3) := by decide +kernel
theorem dX7_proof_113 : decode cX7_proof 113 = .ok (.aload_n 0, 1) := by decide +kernel
theorem dX7_proof_114 : decode cX7_proof 114 = .ok (.getfield 37, 3) := by decide +kernel
theorem dX7_proof_117 : decode cX7_proof 117 = .ok (.invokevirtual 195, 3) := by decide +kernel
theorem dX7_proof_120 : decode cX7_proof 120 = .ok (.iaload, 1) := by decide +kernel
theorem dX7_proof_121 : decode cX7_proof 121 = .ok (.i2l, 1) := by decide +kernel
theorem dX7_proof_122 : decode cX7_proof 122 = .ok (.lstore 5, 2) := by decide +kernel
theorem dX7_proof_124 : decode cX7_proof 124 = .ok (.lload 5, 2) := by decide +kernel
theorem dX7_proof_126 : decode cX7_proof 126 = .ok (.lconst 0, 1) := by decide +kernel
theorem dX7_proof_127 : decode cX7_proof 127 = .ok (.lcmp, 1) := by decide +kernel
theorem dX7_proof_128 : decode cX7_proof 128 = .ok (.ifCond .ne 17, 3) := by decide +kernel
theorem dX7_proof_131 : decode cX7_proof 131 = .ok (.lload_n 3, 1) := by decide +kernel
theorem dX7_proof_132 : decode cX7_proof 132 = .ok (.lconst 0, 1) := by decide +kernel
theorem dX7_proof_133 : decode cX7_proof 133 = .ok (.lcmp, 1) := by decide +kernel
theorem dX7_proof_134 : decode cX7_proof 134 = .ok (.ifCond .ne 7, 3) := by decide +kernel
theorem dX7_proof_137 : decode cX7_proof 137 = .ok (.lconst 0, 1) := by decide +kernel
theorem dX7_proof_138 : decode cX7_proof 138 = .ok (.goto 6, 3) := by decide +kernel
theorem dX7_proof_141 : decode cX7_proof 141 = .ok (.ldc2_w 199, 3) := by decide +kernel
theorem dX7_proof_144 : decode cX7_proof 144 = .ok (.lreturn, 1) := by decide +kernel
theorem dX7_proof_145 : decode cX7_proof 145 = .ok (.lload_n 3, 1) := by decide +kernel
theorem dX7_proof_146 : decode cX7_proof 146 = .ok (.lload 5, 2) := by decide +kernel
theorem dX7_proof_148 : decode cX7_proof 148 = .ok (.ladd, 1) := by decide +kernel
theorem dX7_proof_149 : decode cX7_proof 149 = .ok (.lconst 1, 1) := by decide +kernel
theorem dX7_proof_150 : decode cX7_proof 150 = .ok (.lsub, 1) := by decide +kernel
theorem dX7_proof_151 : decode cX7_proof 151 = .ok (.lload 5, 2) := by decide +kernel
theorem dX7_proof_153 : decode cX7_proof 153 = .ok (.ldiv, 1) := by decide +kernel
theorem dX7_proof_154 : decode cX7_proof 154 = .ok (.lreturn, 1) := by decide +kernel
theorem dX7_ways_0 : decode cX7_ways 0 = .ok (.iload_n 1, 1) := by decide +kernel
theorem dX7_ways_1 : decode cX7_ways 1 = .ok (.i2l, 1) := by decide +kernel
theorem dX7_ways_2 : decode cX7_ways 2 = .ok (.lconst 0, 1) := by decide +kernel
theorem dX7_ways_3 : decode cX7_ways 3 = .ok (.ldc2_w 201, 3) := by decide +kernel
theorem dX7_ways_6 : decode cX7_ways 6 = .ok (.invokestatic 47, 3) := by decide +kernel
theorem dX7_ways_9 : decode cX7_ways 9 = .ok (.ifCond .ne 6, 3) := by decide +kernel
theorem dX7_ways_12 : decode cX7_ways 12 = .ok (.bipush (-2), 2) := by decide +kernel
theorem dX7_ways_14 : decode cX7_ways 14 = .ok (.ireturn, 1) := by decide +kernel
theorem dX7_ways_15 : decode cX7_ways 15 = .ok (.aload_n 0, 1) := by decide +kernel
theorem dX7_ways_16 : decode cX7_ways 16 = .ok (.getfield 19, 3) := by decide +kernel
theorem dX7_ways_19 : decode cX7_ways 19 = .ok (.aload_n 0, 1) := by decide +kernel
theorem dX7_ways_20 : decode cX7_ways 20 = .ok (.getfield 12, 3) := by decide +kernel
theorem dX7_ways_23 : decode cX7_ways 23 = .ok (.invokevirtual 138, 3) := by decide +kernel
theorem dX7_ways_26 : decode cX7_ways 26 = .ok (.aload_n 0, 1) := by decide +kernel
theorem dX7_ways_27 : decode cX7_ways 27 = .ok (.getfield 203, 3) := by decide +kernel
theorem dX7_ways_30 : decode cX7_ways 30 = .ok (.ifnonnull 14, 3) := by decide +kernel
theorem dX7_ways_33 : decode cX7_ways 33 = .ok (.aload_n 0, 1) := by decide +kernel
theorem dX7_ways_34 : decode cX7_ways 34 = .ok (.new 207, 3) := by decide +kernel
theorem dX7_ways_37 : decode cX7_ways 37 = .ok (.dup, 1) := by decide +kernel
theorem dX7_ways_38 : decode cX7_ways 38 = .ok (.invokespecial 209, 3) := by decide +kernel
theorem dX7_ways_41 : decode cX7_ways 41 = .ok (.putfield 203, 3) := by decide +kernel
theorem dX7_ways_44 : decode cX7_ways 44 = .ok (.aload_n 0, 1) := by decide +kernel
theorem dX7_ways_45 : decode cX7_ways 45 = .ok (.getfield 203, 3) := by decide +kernel
theorem dX7_ways_48 : decode cX7_ways 48 = .ok (.aload_n 0, 1) := by decide +kernel
theorem dX7_ways_49 : decode cX7_ways 49 = .ok (.getfield 19, 3) := by decide +kernel
theorem dX7_ways_52 : decode cX7_ways 52 = .ok (.aload_n 0, 1) := by decide +kernel
theorem dX7_ways_53 : decode cX7_ways 53 = .ok (.getfield 12, 3) := by decide +kernel
theorem dX7_ways_56 : decode cX7_ways 56 = .ok (.invokevirtual 131, 3) := by decide +kernel
theorem dX7_ways_59 : decode cX7_ways 59 = .ok (.iload_n 1, 1) := by decide +kernel
theorem dX7_ways_60 : decode cX7_ways 60 = .ok (.invokevirtual 210, 3) := by decide +kernel
theorem dX7_ways_63 : decode cX7_ways 63 = .ok (.aload_n 0, 1) := by decide +kernel
theorem dX7_ways_64 : decode cX7_ways 64 = .ok (.getfield 203, 3) := by decide +kernel
theorem dX7_ways_67 : decode cX7_ways 67 = .ok (.invokevirtual 214, 3) := by decide +kernel
theorem dX7_ways_70 : decode cX7_ways 70 = .ok (.ireturn, 1) := by decide +kernel
theorem dX7_digit_0 : decode cX7_digit 0 = .ok (.iload_n 1, 1) := by decide +kernel
theorem dX7_digit_1 : decode cX7_digit 1 = .ok (.ifCond .ge 6, 3) := by decide +kernel
theorem dX7_digit_4 : decode cX7_digit 4 = .ok (.bipush (-2), 2) := by decide +kernel
theorem dX7_digit_6 : decode cX7_digit 6 = .ok (.ireturn, 1) := by decide +kernel
theorem dX7_digit_7 : decode cX7_digit 7 = .ok (.aload_n 0, 1) := by decide +kernel
theorem dX7_digit_8 : decode cX7_digit 8 = .ok (.getfield 203, 3) := by decide +kernel
theorem dX7_digit_11 : decode cX7_digit 11 = .ok (.ifnonnull 7, 3) := by decide +kernel
theorem dX7_digit_14 : decode cX7_digit 14 = .ok (.iconst 0, 1) := by decide +kernel
theorem dX7_digit_15 : decode cX7_digit 15 = .ok (.goto 11, 3) := by decide +kernel
theorem dX7_digit_18 : decode cX7_digit 18 = .ok (.aload_n 0, 1) := by decide +kernel
theorem dX7_digit_19 : decode cX7_digit 19 = .ok (.getfield 203, 3) := by decide +kernel
theorem dX7_digit_22 : decode cX7_digit 22 = .ok (.iload_n 1, 1) := by decide +kernel
theorem dX7_digit_23 : decode cX7_digit 23 = .ok (.invokevirtual 217, 3) := by decide +kernel
theorem dX7_digit_26 : decode cX7_digit 26 = .ok (.ireturn, 1) := by decide +kernel
theorem dX7_rule_0 : decode cX7_rule 0 = .ok (.iload_n 1, 1) := by decide +kernel
theorem dX7_rule_1 : decode cX7_rule 1 = .ok (.i2l, 1) := by decide +kernel
theorem dX7_rule_2 : decode cX7_rule 2 = .ok (.lconst 0, 1) := by decide +kernel
theorem dX7_rule_3 : decode cX7_rule 3 = .ok (.lconst 1, 1) := by decide +kernel
theorem dX7_rule_4 : decode cX7_rule 4 = .ok (.invokestatic 47, 3) := by decide +kernel
theorem dX7_rule_7 : decode cX7_rule 7 = .ok (.ifCond .ne 6, 3) := by decide +kernel
theorem dX7_rule_10 : decode cX7_rule 10 = .ok (.bipush (-2), 2) := by decide +kernel
theorem dX7_rule_12 : decode cX7_rule 12 = .ok (.ireturn, 1) := by decide +kernel
theorem dX7_rule_13 : decode cX7_rule 13 = .ok (.aload_n 0, 1) := by decide +kernel
theorem dX7_rule_14 : decode cX7_rule 14 = .ok (.getfield 220, 3) := by decide +kernel
theorem dX7_rule_17 : decode cX7_rule 17 = .ok (.istore_n 2, 1) := by decide +kernel
theorem dX7_rule_18 : decode cX7_rule 18 = .ok (.aload_n 0, 1) := by decide +kernel
theorem dX7_rule_19 : decode cX7_rule 19 = .ok (.iload_n 1, 1) := by decide +kernel
theorem dX7_rule_20 : decode cX7_rule 20 = .ok (.putfield 220, 3) := by decide +kernel
theorem dX7_rule_23 : decode cX7_rule 23 = .ok (.iload_n 2, 1) := by decide +kernel
theorem dX7_rule_24 : decode cX7_rule 24 = .ok (.ireturn, 1) := by decide +kernel
theorem dX7_go_0 : decode cX7_go 0 = .ok (.iload_n 1, 1) := by decide +kernel
theorem dX7_go_1 : decode cX7_go 1 = .ok (.i2l, 1) := by decide +kernel
theorem dX7_go_2 : decode cX7_go 2 = .ok (.lconst 1, 1) := by decide +kernel
theorem dX7_go_3 : decode cX7_go 3 = .ok (.ldc2_w 223, 3) := by decide +kernel
theorem dX7_go_6 : decode cX7_go 6 = .ok (.invokestatic 47, 3) := by decide +kernel
theorem dX7_go_9 : decode cX7_go 9 = .ok (.ifCond .ne 6, 3) := by decide +kernel
theorem dX7_go_12 : decode cX7_go 12 = .ok (.bipush (-2), 2) := by decide +kernel
theorem dX7_go_14 : decode cX7_go 14 = .ok (.ireturn, 1) := by decide +kernel
theorem dX7_go_15 : decode cX7_go 15 = .ok (.iload_n 1, 1) := by decide +kernel
theorem dX7_go_16 : decode cX7_go 16 = .ok (.sipush 20000, 3) := by decide +kernel
theorem dX7_go_19 : decode cX7_go 19 = .ok (.aload_n 0, 1) := by decide +kernel
theorem dX7_go_20 : decode cX7_go 20 = .ok (.getfield 225, 3) := by decide +kernel
theorem dX7_go_23 : decode cX7_go 23 = .ok (.isub, 1) := by decide +kernel
theorem dX7_go_24 : decode cX7_go 24 = .ok (.if_icmp .le 6, 3) := by decide +kernel
theorem dX7_go_27 : decode cX7_go 27 = .ok (.bipush (-3), 2) := by decide +kernel
theorem dX7_go_29 : decode cX7_go 29 = .ok (.ireturn, 1) := by decide +kernel
theorem dX7_go_30 : decode cX7_go 30 = .ok (.aload_n 0, 1) := by decide +kernel
theorem dX7_go_31 : decode cX7_go 31 = .ok (.getfield 19, 3) := by decide +kernel
theorem dX7_go_34 : decode cX7_go 34 = .ok (.aload_n 0, 1) := by decide +kernel
theorem dX7_go_35 : decode cX7_go 35 = .ok (.getfield 12, 3) := by decide +kernel
theorem dX7_go_38 : decode cX7_go 38 = .ok (.invokevirtual 138, 3) := by decide +kernel
theorem dX7_go_41 : decode cX7_go 41 = .ok (.iconst 0, 1) := by decide +kernel
theorem dX7_go_42 : decode cX7_go 42 = .ok (.istore_n 2, 1) := by decide +kernel
theorem dX7_go_43 : decode cX7_go 43 = .ok (.iload_n 2, 1) := by decide +kernel
theorem dX7_go_44 : decode cX7_go 44 = .ok (.iload_n 1, 1) := by decide +kernel
theorem dX7_go_45 : decode cX7_go 45 = .ok (.if_icmp .ge 13, 3) := by decide +kernel
theorem dX7_go_48 : decode cX7_go 48 = .ok (.aload_n 0, 1) := by decide +kernel
theorem dX7_go_49 : decode cX7_go 49 = .ok (.invokevirtual 228, 3) := by decide +kernel
theorem dX7_go_52 : decode cX7_go 52 = .ok (.iinc 2 1, 3) := by decide +kernel
theorem dX7_go_55 : decode cX7_go 55 = .ok (.goto (-12), 3) := by decide +kernel
theorem dX7_go_58 : decode cX7_go 58 = .ok (.aload_n 0, 1) := by decide +kernel
theorem dX7_go_59 : decode cX7_go 59 = .ok (.getfield 225, 3) := by decide +kernel
theorem dX7_go_62 : decode cX7_go 62 = .ok (.ireturn, 1) := by decide +kernel
theorem dX7_lit_0 : decode cX7_lit 0 = .ok (.aload_n 0, 1) := by decide +kernel
theorem dX7_lit_1 : decode cX7_lit 1 = .ok (.getfield 41, 3) := by decide +kernel
theorem dX7_lit_4 : decode cX7_lit 4 = .ok (.ireturn, 1) := by decide +kernel
theorem dX7_cellOf_0 : decode cX7_cellOf 0 = .ok (.aload_n 0, 1) := by decide +kernel
theorem dX7_cellOf_1 : decode cX7_cellOf 1 = .ok (.getfield 12, 3) := by decide +kernel
theorem dX7_cellOf_4 : decode cX7_cellOf 4 = .ok (.iload_n 1, 1) := by decide +kernel
theorem dX7_cellOf_5 : decode cX7_cellOf 5 = .ok (.invokevirtual 87, 3) := by decide +kernel
theorem dX7_cellOf_8 : decode cX7_cellOf 8 = .ok (.ifCond .eq 19, 3) := by decide +kernel
theorem dX7_cellOf_11 : decode cX7_cellOf 11 = .ok (.aload_n 0, 1) := by decide +kernel
theorem dX7_cellOf_12 : decode cX7_cellOf 12 = .ok (.getfield 12, 3) := by decide +kernel
theorem dX7_cellOf_15 : decode cX7_cellOf 15 = .ok (.getfield 78, 3) := by decide +kernel
theorem dX7_cellOf_18 : decode cX7_cellOf 18 = .ok (.iload_n 1, 1) := by decide +kernel
theorem dX7_cellOf_19 : decode cX7_cellOf 19 = .ok (.aaload, 1) := by decide +kernel
theorem dX7_cellOf_20 : decode cX7_cellOf 20 = .ok (.iload_n 2, 1) := by decide +kernel
theorem dX7_cellOf_21 : decode cX7_cellOf 21 = .ok (.invokevirtual 231, 3) := by decide +kernel
theorem dX7_cellOf_24 : decode cX7_cellOf 24 = .ok (.goto 5, 3) := by decide +kernel
theorem dX7_cellOf_27 : decode cX7_cellOf 27 = .ok (.bipush (-2), 2) := by decide +kernel
theorem dX7_cellOf_29 : decode cX7_cellOf 29 = .ok (.ireturn, 1) := by decide +kernel
theorem dX7_units_0 : decode cX7_units 0 = .ok (.aload_n 0, 1) := by decide +kernel
theorem dX7_units_1 : decode cX7_units 1 = .ok (.getfield 12, 3) := by decide +kernel
theorem dX7_units_4 : decode cX7_units 4 = .ok (.iload_n 1, 1) := by decide +kernel
theorem dX7_units_5 : decode cX7_units 5 = .ok (.invokevirtual 87, 3) := by decide +kernel
theorem dX7_units_8 : decode cX7_units 8 = .ok (.ifCond .eq 19, 3) := by decide +kernel
theorem dX7_units_11 : decode cX7_units 11 = .ok (.aload_n 0, 1) := by decide +kernel
theorem dX7_units_12 : decode cX7_units 12 = .ok (.getfield 12, 3) := by decide +kernel
theorem dX7_units_15 : decode cX7_units 15 = .ok (.getfield 78, 3) := by decide +kernel
theorem dX7_units_18 : decode cX7_units 18 = .ok (.iload_n 1, 1) := by decide +kernel
theorem dX7_units_19 : decode cX7_units 19 = .ok (.aaload, 1) := by decide +kernel
theorem dX7_units_20 : decode cX7_units 20 = .ok (.iload_n 2, 1) := by decide +kernel
theorem dX7_units_21 : decode cX7_units 21 = .ok (.invokevirtual 234, 3) := by decide +kernel
theorem dX7_units_24 : decode cX7_units 24 = .ok (.goto 6, 3) := by decide +kernel
theorem dX7_units_27 : decode cX7_units 27 = .ok (.ldc2_w 238, 3) := by decide +kernel
theorem dX7_units_30 : decode cX7_units 30 = .ok (.lreturn, 1) := by decide +kernel
theorem dX7_count_0 : decode cX7_count 0 = .ok (.iload_n 1, 1) := by decide +kernel
theorem dX7_count_1 : decode cX7_count 1 = .ok (.tableswitch 126 0 9 #[55, 63, 71, 79, 87, 95, 100, 105, 113, 118], 55) := by decide +kernel
theorem dX7_count_56 : decode cX7_count 56 = .ok (.aload_n 0, 1) := by decide +kernel
theorem dX7_count_57 : decode cX7_count 57 = .ok (.getfield 12, 3) := by decide +kernel
theorem dX7_count_60 : decode cX7_count 60 = .ok (.getfield 75, 3) := by decide +kernel
theorem dX7_count_63 : decode cX7_count 63 = .ok (.ireturn, 1) := by decide +kernel
theorem dX7_count_64 : decode cX7_count 64 = .ok (.aload_n 0, 1) := by decide +kernel
theorem dX7_count_65 : decode cX7_count 65 = .ok (.getfield 12, 3) := by decide +kernel
theorem dX7_count_68 : decode cX7_count 68 = .ok (.getfield 57, 3) := by decide +kernel
theorem dX7_count_71 : decode cX7_count 71 = .ok (.ireturn, 1) := by decide +kernel
theorem dX7_count_72 : decode cX7_count 72 = .ok (.aload_n 0, 1) := by decide +kernel
theorem dX7_count_73 : decode cX7_count 73 = .ok (.getfield 12, 3) := by decide +kernel
theorem dX7_count_76 : decode cX7_count 76 = .ok (.getfield 60, 3) := by decide +kernel
theorem dX7_count_79 : decode cX7_count 79 = .ok (.ireturn, 1) := by decide +kernel
theorem dX7_count_80 : decode cX7_count 80 = .ok (.aload_n 0, 1) := by decide +kernel
theorem dX7_count_81 : decode cX7_count 81 = .ok (.getfield 12, 3) := by decide +kernel
theorem dX7_count_84 : decode cX7_count 84 = .ok (.getfield 63, 3) := by decide +kernel
theorem dX7_count_87 : decode cX7_count 87 = .ok (.ireturn, 1) := by decide +kernel
theorem dX7_count_88 : decode cX7_count 88 = .ok (.aload_n 0, 1) := by decide +kernel
theorem dX7_count_89 : decode cX7_count 89 = .ok (.getfield 12, 3) := by decide +kernel
theorem dX7_count_92 : decode cX7_count 92 = .ok (.getfield 66, 3) := by decide +kernel
theorem dX7_count_95 : decode cX7_count 95 = .ok (.ireturn, 1) := by decide +kernel
theorem dX7_count_96 : decode cX7_count 96 = .ok (.aload_n 0, 1) := by decide +kernel
theorem dX7_count_97 : decode cX7_count 97 = .ok (.getfield 225, 3) := by decide +kernel
theorem dX7_count_100 : decode cX7_count 100 = .ok (.ireturn, 1) := by decide +kernel
theorem dX7_count_101 : decode cX7_count 101 = .ok (.aload_n 0, 1) := by decide +kernel
theorem dX7_count_102 : decode cX7_count 102 = .ok (.getfield 220, 3) := by decide +kernel
theorem dX7_count_105 : decode cX7_count 105 = .ok (.ireturn, 1) := by decide +kernel
theorem dX7_count_106 : decode cX7_count 106 = .ok (.aload_n 0, 1) := by decide +kernel
theorem dX7_count_107 : decode cX7_count 107 = .ok (.getfield 33, 3) := by decide +kernel
theorem dX7_count_110 : decode cX7_count 110 = .ok (.getfield 150, 3) := by decide +kernel
theorem dX7_count_113 : decode cX7_count 113 = .ok (.ireturn, 1) := by decide +kernel
theorem dX7_count_114 : decode cX7_count 114 = .ok (.aload_n 0, 1) := by decide +kernel
theorem dX7_count_115 : decode cX7_count 115 = .ok (.getfield 143, 3) := by decide +kernel
theorem dX7_count_118 : decode cX7_count 118 = .ok (.ireturn, 1) := by decide +kernel
theorem dX7_count_119 : decode cX7_count 119 = .ok (.aload_n 0, 1) := by decide +kernel
theorem dX7_count_120 : decode cX7_count 120 = .ok (.getfield 26, 3) := by decide +kernel
theorem dX7_count_123 : decode cX7_count 123 = .ok (.invokevirtual 240, 3) := by decide +kernel
theorem dX7_count_126 : decode cX7_count 126 = .ok (.ireturn, 1) := by decide +kernel
theorem dX7_count_127 : decode cX7_count 127 = .ok (.iconst (-1), 1) := by decide +kernel
theorem dX7_count_128 : decode cX7_count 128 = .ok (.ireturn, 1) := by decide +kernel
theorem dX7_gatewayOf_0 : decode cX7_gatewayOf 0 = .ok (.iload_n 1, 1) := by decide +kernel
theorem dX7_gatewayOf_1 : decode cX7_gatewayOf 1 = .ok (.invokestatic 71, 3) := by decide +kernel
theorem dX7_gatewayOf_4 : decode cX7_gatewayOf 4 = .ok (.ifCond .ne 6, 3) := by decide +kernel
theorem dX7_gatewayOf_7 : decode cX7_gatewayOf 7 = .ok (.bipush (-2), 2) := by decide +kernel
theorem dX7_gatewayOf_9 : decode cX7_gatewayOf 9 = .ok (.ireturn, 1) := by decide +kernel
theorem dX7_gatewayOf_10 : decode cX7_gatewayOf 10 = .ok (.iload_n 2, 1) := by decide +kernel
theorem dX7_gatewayOf_11 : decode cX7_gatewayOf 11 = .ok (.tableswitch 62 0 2 #[25, 35, 53], 25) := by decide +kernel
theorem dX7_gatewayOf_36 : decode cX7_gatewayOf 36 = .ok (.aload_n 0, 1) := by decide +kernel
theorem dX7_gatewayOf_37 : decode cX7_gatewayOf 37 = .ok (.getfield 12, 3) := by decide +kernel
theorem dX7_gatewayOf_40 : decode cX7_gatewayOf 40 = .ok (.getfield 104, 3) := by decide +kernel
theorem dX7_gatewayOf_43 : decode cX7_gatewayOf 43 = .ok (.iload_n 1, 1) := by decide +kernel
theorem dX7_gatewayOf_44 : decode cX7_gatewayOf 44 = .ok (.iaload, 1) := by decide +kernel
theorem dX7_gatewayOf_45 : decode cX7_gatewayOf 45 = .ok (.ireturn, 1) := by decide +kernel
theorem dX7_gatewayOf_46 : decode cX7_gatewayOf 46 = .ok (.aload_n 0, 1) := by decide +kernel
theorem dX7_gatewayOf_47 : decode cX7_gatewayOf 47 = .ok (.getfield 12, 3) := by decide +kernel
theorem dX7_gatewayOf_50 : decode cX7_gatewayOf 50 = .ok (.getfield 107, 3) := by decide +kernel
theorem dX7_gatewayOf_53 : decode cX7_gatewayOf 53 = .ok (.iload_n 1, 1) := by decide +kernel
theorem dX7_gatewayOf_54 : decode cX7_gatewayOf 54 = .ok (.baload, 1) := by decide +kernel
theorem dX7_gatewayOf_55 : decode cX7_gatewayOf 55 = .ok (.ifCond .eq 7, 3) := by decide +kernel
theorem dX7_gatewayOf_58 : decode cX7_gatewayOf 58 = .ok (.iconst 1, 1) := by decide +kernel
theorem dX7_gatewayOf_59 : decode cX7_gatewayOf 59 = .ok (.goto 4, 3) := by decide +kernel
theorem dX7_gatewayOf_62 : decode cX7_gatewayOf 62 = .ok (.iconst 0, 1) := by decide +kernel
theorem dX7_gatewayOf_63 : decode cX7_gatewayOf 63 = .ok (.ireturn, 1) := by decide +kernel
theorem dX7_gatewayOf_64 : decode cX7_gatewayOf 64 = .ok (.aload_n 0, 1) := by decide +kernel
theorem dX7_gatewayOf_65 : decode cX7_gatewayOf 65 = .ok (.getfield 12, 3) := by decide +kernel
theorem dX7_gatewayOf_68 : decode cX7_gatewayOf 68 = .ok (.iload_n 1, 1) := by decide +kernel
theorem dX7_gatewayOf_69 : decode cX7_gatewayOf 69 = .ok (.invokevirtual 243, 3) := by decide +kernel
theorem dX7_gatewayOf_72 : decode cX7_gatewayOf 72 = .ok (.ireturn, 1) := by decide +kernel
theorem dX7_gatewayOf_73 : decode cX7_gatewayOf 73 = .ok (.bipush (-2), 2) := by decide +kernel
theorem dX7_gatewayOf_75 : decode cX7_gatewayOf 75 = .ok (.ireturn, 1) := by decide +kernel
theorem dX7_row_0 : decode cX7_row 0 = .ok (.aload_n 0, 1) := by decide +kernel
theorem dX7_row_1 : decode cX7_row 1 = .ok (.getfield 26, 3) := by decide +kernel
theorem dX7_row_4 : decode cX7_row 4 = .ok (.iload_n 1, 1) := by decide +kernel
theorem dX7_row_5 : decode cX7_row 5 = .ok (.iload_n 2, 1) := by decide +kernel
theorem dX7_row_6 : decode cX7_row 6 = .ok (.iload_n 3, 1) := by decide +kernel
theorem dX7_row_7 : decode cX7_row 7 = .ok (.invokevirtual 246, 3) := by decide +kernel
theorem dX7_row_10 : decode cX7_row 10 = .ok (.ireturn, 1) := by decide +kernel
theorem dX7_tear_0 : decode cX7_tear 0 = .ok (.aload_n 0, 1) := by decide +kernel
theorem dX7_tear_1 : decode cX7_tear 1 = .ok (.getfield 26, 3) := by decide +kernel
theorem dX7_tear_4 : decode cX7_tear 4 = .ok (.iload_n 1, 1) := by decide +kernel
theorem dX7_tear_5 : decode cX7_tear 5 = .ok (.invokevirtual 249, 3) := by decide +kernel
theorem dX7_tear_8 : decode cX7_tear 8 = .ok (.ireturn, 1) := by decide +kernel
theorem dX7_write_0 : decode cX7_write 0 = .ok (.aload_n 0, 1) := by decide +kernel
theorem dX7_write_1 : decode cX7_write 1 = .ok (.getfield 26, 3) := by decide +kernel
theorem dX7_write_4 : decode cX7_write 4 = .ok (.iload_n 1, 1) := by decide +kernel
theorem dX7_write_5 : decode cX7_write 5 = .ok (.iload_n 2, 1) := by decide +kernel
theorem dX7_write_6 : decode cX7_write 6 = .ok (.lload_n 3, 1) := by decide +kernel
theorem dX7_write_7 : decode cX7_write 7 = .ok (.invokevirtual 252, 3) := by decide +kernel
theorem dX7_write_10 : decode cX7_write 10 = .ok (.ireturn, 1) := by decide +kernel
theorem dX7_paste_0 : decode cX7_paste 0 = .ok (.aload_n 0, 1) := by decide +kernel
theorem dX7_paste_1 : decode cX7_paste 1 = .ok (.getfield 26, 3) := by decide +kernel
theorem dX7_paste_4 : decode cX7_paste 4 = .ok (.iload_n 1, 1) := by decide +kernel
theorem dX7_paste_5 : decode cX7_paste 5 = .ok (.iload_n 2, 1) := by decide +kernel
theorem dX7_paste_6 : decode cX7_paste 6 = .ok (.iload_n 3, 1) := by decide +kernel
theorem dX7_paste_7 : decode cX7_paste 7 = .ok (.iload 4, 2) := by decide +kernel
theorem dX7_paste_9 : decode cX7_paste 9 = .ok (.iload 5, 2) := by decide +kernel
theorem dX7_paste_11 : decode cX7_paste 11 = .ok (.invokevirtual 256, 3) := by decide +kernel
theorem dX7_paste_14 : decode cX7_paste 14 = .ok (.ireturn, 1) := by decide +kernel
theorem dX7_passSlot_0 : decode cX7_passSlot 0 = .ok (.aload_n 0, 1) := by decide +kernel
theorem dX7_passSlot_1 : decode cX7_passSlot 1 = .ok (.getfield 12, 3) := by decide +kernel
theorem dX7_passSlot_4 : decode cX7_passSlot 4 = .ok (.invokevirtual 260, 3) := by decide +kernel
theorem dX7_passSlot_7 : decode cX7_passSlot 7 = .ok (.aload_n 0, 1) := by decide +kernel
theorem dX7_passSlot_8 : decode cX7_passSlot 8 = .ok (.aload_n 0, 1) := by decide +kernel
theorem dX7_passSlot_9 : decode cX7_passSlot 9 = .ok (.getfield 220, 3) := by decide +kernel
theorem dX7_passSlot_12 : decode cX7_passSlot 12 = .ok (.iconst 1, 1) := by decide +kernel
theorem dX7_passSlot_13 : decode cX7_passSlot 13 = .ok (.if_icmp .ne 10, 3) := by decide +kernel
theorem dX7_passSlot_16 : decode cX7_passSlot 16 = .ok (.aload_n 0, 1) := by decide +kernel
theorem dX7_passSlot_17 : decode cX7_passSlot 17 = .ok (.invokevirtual 263, 3) := by decide +kernel
theorem dX7_passSlot_20 : decode cX7_passSlot 20 = .ok (.goto 7, 3) := by decide +kernel
theorem dX7_passSlot_23 : decode cX7_passSlot 23 = .ok (.aload_n 0, 1) := by decide +kernel
theorem dX7_passSlot_24 : decode cX7_passSlot 24 = .ok (.invokevirtual 266, 3) := by decide +kernel
theorem dX7_passSlot_27 : decode cX7_passSlot 27 = .ok (.putfield 41, 3) := by decide +kernel
theorem dX7_passSlot_30 : decode cX7_passSlot 30 = .ok (.aload_n 0, 1) := by decide +kernel
theorem dX7_passSlot_31 : decode cX7_passSlot 31 = .ok (.getfield 12, 3) := by decide +kernel
theorem dX7_passSlot_34 : decode cX7_passSlot 34 = .ok (.aload_n 0, 1) := by decide +kernel
theorem dX7_passSlot_35 : decode cX7_passSlot 35 = .ok (.getfield 41, 3) := by decide +kernel
theorem dX7_passSlot_38 : decode cX7_passSlot 38 = .ok (.invokevirtual 269, 3) := by decide +kernel
theorem dX7_passSlot_41 : decode cX7_passSlot 41 = .ok (.aload_n 0, 1) := by decide +kernel
theorem dX7_passSlot_42 : decode cX7_passSlot 42 = .ok (.getfield 12, 3) := by decide +kernel
theorem dX7_passSlot_45 : decode cX7_passSlot 45 = .ok (.invokevirtual 273, 3) := by decide +kernel
theorem dX7_passSlot_48 : decode cX7_passSlot 48 = .ok (.ifCond .eq 14, 3) := by decide +kernel
theorem dX7_passSlot_51 : decode cX7_passSlot 51 = .ok (.aload_n 0, 1) := by decide +kernel
theorem dX7_passSlot_52 : decode cX7_passSlot 52 = .ok (.getfield 19, 3) := by decide +kernel
theorem dX7_passSlot_55 : decode cX7_passSlot 55 = .ok (.aload_n 0, 1) := by decide +kernel
theorem dX7_passSlot_56 : decode cX7_passSlot 56 = .ok (.getfield 12, 3) := by decide +kernel
theorem dX7_passSlot_59 : decode cX7_passSlot 59 = .ok (.invokevirtual 138, 3) := by decide +kernel
theorem dX7_passSlot_62 : decode cX7_passSlot 62 = .ok (.aload_n 0, 1) := by decide +kernel
theorem dX7_passSlot_63 : decode cX7_passSlot 63 = .ok (.dup, 1) := by decide +kernel
theorem dX7_passSlot_64 : decode cX7_passSlot 64 = .ok (.getfield 225, 3) := by decide +kernel
theorem dX7_passSlot_67 : decode cX7_passSlot 67 = .ok (.iconst 1, 1) := by decide +kernel
theorem dX7_passSlot_68 : decode cX7_passSlot 68 = .ok (.iadd, 1) := by decide +kernel
theorem dX7_passSlot_69 : decode cX7_passSlot 69 = .ok (.putfield 225, 3) := by decide +kernel
theorem dX7_passSlot_72 : decode cX7_passSlot 72 = .ok (.return_, 1) := by decide +kernel
theorem dX7_setOfFrame_0 : decode cX7_setOfFrame 0 = .ok (.aload_n 0, 1) := by decide +kernel
theorem dX7_setOfFrame_1 : decode cX7_setOfFrame 1 = .ok (.getfield 33, 3) := by decide +kernel
theorem dX7_setOfFrame_4 : decode cX7_setOfFrame 4 = .ok (.getfield 150, 3) := by decide +kernel
theorem dX7_setOfFrame_7 : decode cX7_setOfFrame 7 = .ok (.iconst 1, 1) := by decide +kernel
theorem dX7_setOfFrame_8 : decode cX7_setOfFrame 8 = .ok (.if_icmp .ge 5, 3) := by decide +kernel
theorem dX7_setOfFrame_11 : decode cX7_setOfFrame 11 = .ok (.iconst 0, 1) := by decide +kernel
theorem dX7_setOfFrame_12 : decode cX7_setOfFrame 12 = .ok (.ireturn, 1) := by decide +kernel
theorem dX7_setOfFrame_13 : decode cX7_setOfFrame 13 = .ok (.aload_n 0, 1) := by decide +kernel
theorem dX7_setOfFrame_14 : decode cX7_setOfFrame 14 = .ok (.getfield 33, 3) := by decide +kernel
theorem dX7_setOfFrame_17 : decode cX7_setOfFrame 17 = .ok (.getfield 174, 3) := by decide +kernel
theorem dX7_setOfFrame_20 : decode cX7_setOfFrame 20 = .ok (.aload_n 0, 1) := by decide +kernel
theorem dX7_setOfFrame_21 : decode cX7_setOfFrame 21 = .ok (.getfield 225, 3) := by decide +kernel
theorem dX7_setOfFrame_24 : decode cX7_setOfFrame 24 = .ok (.aload_n 0, 1) := by decide +kernel
theorem dX7_setOfFrame_25 : decode cX7_setOfFrame 25 = .ok (.getfield 33, 3) := by decide +kernel
theorem dX7_setOfFrame_28 : decode cX7_setOfFrame 28 = .ok (.getfield 150, 3) := by decide +kernel
theorem dX7_setOfFrame_31 : decode cX7_setOfFrame 31 = .ok (.irem, 1) := by decide +kernel
theorem dX7_setOfFrame_32 : decode cX7_setOfFrame 32 = .ok (.iaload, 1) := by decide +kernel
theorem dX7_setOfFrame_33 : decode cX7_setOfFrame 33 = .ok (.istore_n 1, 1) := by decide +kernel
theorem dX7_setOfFrame_34 : decode cX7_setOfFrame 34 = .ok (.bipush 9, 2) := by decide +kernel
theorem dX7_setOfFrame_36 : decode cX7_setOfFrame 36 = .ok (.istore_n 2, 1) := by decide +kernel
theorem dX7_setOfFrame_37 : decode cX7_setOfFrame 37 = .ok (.iload_n 2, 1) := by decide +kernel
theorem dX7_setOfFrame_38 : decode cX7_setOfFrame 38 = .ok (.ifCond .lt 28, 3) := by decide +kernel
theorem dX7_setOfFrame_41 : decode cX7_setOfFrame 41 = .ok (.aload_n 0, 1) := by decide +kernel
theorem dX7_setOfFrame_42 : decode cX7_setOfFrame 42 = .ok (.getfield 19, 3) := by decide +kernel
theorem dX7_setOfFrame_45 : decode cX7_setOfFrame 45 = .ok (.iload_n 1, 1) := by decide +kernel
theorem dX7_setOfFrame_46 : decode cX7_setOfFrame 46 = .ok (.invokevirtual 276, 3) := by decide +kernel
theorem dX7_setOfFrame_49 : decode cX7_setOfFrame 49 = .ok (.ifCond .ne 17, 3) := by decide +kernel
theorem dX7_setOfFrame_52 : decode cX7_setOfFrame 52 = .ok (.iload_n 1, 1) := by decide +kernel
theorem dX7_setOfFrame_53 : decode cX7_setOfFrame 53 = .ok (.iconst 1, 1) := by decide +kernel
theorem dX7_setOfFrame_54 : decode cX7_setOfFrame 54 = .ok (.iload_n 2, 1) := by decide +kernel
theorem dX7_setOfFrame_55 : decode cX7_setOfFrame 55 = .ok (.ishl, 1) := by decide +kernel
theorem dX7_setOfFrame_56 : decode cX7_setOfFrame 56 = .ok (.iconst (-1), 1) := by decide +kernel
theorem dX7_setOfFrame_57 : decode cX7_setOfFrame 57 = .ok (.ixor, 1) := by decide +kernel
theorem dX7_setOfFrame_58 : decode cX7_setOfFrame 58 = .ok (.iand, 1) := by decide +kernel
theorem dX7_setOfFrame_59 : decode cX7_setOfFrame 59 = .ok (.istore_n 1, 1) := by decide +kernel
theorem dX7_setOfFrame_60 : decode cX7_setOfFrame 60 = .ok (.iinc 2 (-1), 3) := by decide +kernel
theorem dX7_setOfFrame_63 : decode cX7_setOfFrame 63 = .ok (.goto (-26), 3) := by decide +kernel
theorem dX7_setOfFrame_66 : decode cX7_setOfFrame 66 = .ok (.iload_n 1, 1) := by decide +kernel
theorem dX7_setOfFrame_67 : decode cX7_setOfFrame 67 = .ok (.ireturn, 1) := by decide +kernel
theorem dX7_heaviestSet_0 : decode cX7_heaviestSet 0 = .ok (.iconst 0, 1) := by decide +kernel
theorem dX7_heaviestSet_1 : decode cX7_heaviestSet 1 = .ok (.istore_n 1, 1) := by decide +kernel
theorem dX7_heaviestSet_2 : decode cX7_heaviestSet 2 = .ok (.iload_n 1, 1) := by decide +kernel
theorem dX7_heaviestSet_3 : decode cX7_heaviestSet 3 = .ok (.aload_n 0, 1) := by decide +kernel
theorem dX7_heaviestSet_4 : decode cX7_heaviestSet 4 = .ok (.getfield 12, 3) := by decide +kernel
theorem dX7_heaviestSet_7 : decode cX7_heaviestSet 7 = .ok (.getfield 75, 3) := by decide +kernel
theorem dX7_heaviestSet_10 : decode cX7_heaviestSet 10 = .ok (.if_icmp .ge 27, 3) := by decide +kernel
theorem dX7_heaviestSet_13 : decode cX7_heaviestSet 13 = .ok (.aload_n 0, 1) := by decide +kernel
theorem dX7_heaviestSet_14 : decode cX7_heaviestSet 14 = .ok (.getfield 37, 3) := by decide +kernel
theorem dX7_heaviestSet_17 : decode cX7_heaviestSet 17 = .ok (.iload_n 1, 1) := by decide +kernel
theorem dX7_heaviestSet_18 : decode cX7_heaviestSet 18 = .ok (.aload_n 0, 1) := by decide +kernel
theorem dX7_heaviestSet_19 : decode cX7_heaviestSet 19 = .ok (.getfield 12, 3) := by decide +kernel
theorem dX7_heaviestSet_22 : decode cX7_heaviestSet 22 = .ok (.getfield 78, 3) := by decide +kernel
theorem dX7_heaviestSet_25 : decode cX7_heaviestSet 25 = .ok (.iload_n 1, 1) := by decide +kernel
theorem dX7_heaviestSet_26 : decode cX7_heaviestSet 26 = .ok (.aaload, 1) := by decide +kernel
theorem dX7_heaviestSet_27 : decode cX7_heaviestSet 27 = .ok (.invokevirtual 277, 3) := by decide +kernel
theorem dX7_heaviestSet_30 : decode cX7_heaviestSet 30 = .ok (.iastore, 1) := by decide +kernel
theorem dX7_heaviestSet_31 : decode cX7_heaviestSet 31 = .ok (.iinc 1 1, 3) := by decide +kernel
theorem dX7_heaviestSet_34 : decode cX7_heaviestSet 34 = .ok (.goto (-32), 3) := by decide +kernel
theorem dX7_heaviestSet_37 : decode cX7_heaviestSet 37 = .ok (.aload_n 0, 1) := by decide +kernel
theorem dX7_heaviestSet_38 : decode cX7_heaviestSet 38 = .ok (.getfield 19, 3) := by decide +kernel
theorem dX7_heaviestSet_41 : decode cX7_heaviestSet 41 = .ok (.aload_n 0, 1) := by decide +kernel
theorem dX7_heaviestSet_42 : decode cX7_heaviestSet 42 = .ok (.getfield 37, 3) := by decide +kernel
theorem dX7_heaviestSet_45 : decode cX7_heaviestSet 45 = .ok (.invokevirtual 195, 3) := by decide +kernel
theorem dX7_heaviestSet_48 : decode cX7_heaviestSet 48 = .ok (.ireturn, 1) := by decide +kernel
theorem dX7_isWithin_0 : decode cX7_isWithin 0 = .ok (.lload_n 0, 1) := by decide +kernel
theorem dX7_isWithin_1 : decode cX7_isWithin 1 = .ok (.lload_n 2, 1) := by decide +kernel
theorem dX7_isWithin_2 : decode cX7_isWithin 2 = .ok (.lcmp, 1) := by decide +kernel
theorem dX7_isWithin_3 : decode cX7_isWithin 3 = .ok (.ifCond .lt 14, 3) := by decide +kernel
theorem dX7_isWithin_6 : decode cX7_isWithin 6 = .ok (.lload_n 0, 1) := by decide +kernel
theorem dX7_isWithin_7 : decode cX7_isWithin 7 = .ok (.lload 4, 2) := by decide +kernel
theorem dX7_isWithin_9 : decode cX7_isWithin 9 = .ok (.lcmp, 1) := by decide +kernel
theorem dX7_isWithin_10 : decode cX7_isWithin 10 = .ok (.ifCond .gt 7, 3) := by decide +kernel
theorem dX7_isWithin_13 : decode cX7_isWithin 13 = .ok (.iconst 1, 1) := by decide +kernel
theorem dX7_isWithin_14 : decode cX7_isWithin 14 = .ok (.goto 4, 3) := by decide +kernel
theorem dX7_isWithin_17 : decode cX7_isWithin 17 = .ok (.iconst 0, 1) := by decide +kernel
theorem dX7_isWithin_18 : decode cX7_isWithin 18 = .ok (.ireturn, 1) := by decide +kernel
theorem dX7_isGateway_0 : decode cX7_isGateway 0 = .ok (.iload_n 0, 1) := by decide +kernel
theorem dX7_isGateway_1 : decode cX7_isGateway 1 = .ok (.i2l, 1) := by decide +kernel
theorem dX7_isGateway_2 : decode cX7_isGateway 2 = .ok (.lconst 0, 1) := by decide +kernel
theorem dX7_isGateway_3 : decode cX7_isGateway 3 = .ok (.ldc2_w 97, 3) := by decide +kernel
theorem dX7_isGateway_6 : decode cX7_isGateway 6 = .ok (.invokestatic 47, 3) := by decide +kernel
theorem dX7_isGateway_9 : decode cX7_isGateway 9 = .ok (.ireturn, 1) := by decide +kernel
theorem dX7_contains_0 : decode cX7_contains 0 = .ok (.iload_n 0, 1) := by decide +kernel
theorem dX7_contains_1 : decode cX7_contains 1 = .ok (.iload_n 1, 1) := by decide +kernel
theorem dX7_contains_2 : decode cX7_contains 2 = .ok (.ishr, 1) := by decide +kernel
theorem dX7_contains_3 : decode cX7_contains 3 = .ok (.iconst 1, 1) := by decide +kernel
theorem dX7_contains_4 : decode cX7_contains 4 = .ok (.iand, 1) := by decide +kernel
theorem dX7_contains_5 : decode cX7_contains 5 = .ok (.ifCond .eq 7, 3) := by decide +kernel
theorem dX7_contains_8 : decode cX7_contains 8 = .ok (.iconst 1, 1) := by decide +kernel
theorem dX7_contains_9 : decode cX7_contains 9 = .ok (.goto 4, 3) := by decide +kernel
theorem dX7_contains_12 : decode cX7_contains 12 = .ok (.iconst 0, 1) := by decide +kernel
theorem dX7_contains_13 : decode cX7_contains 13 = .ok (.ireturn, 1) := by decide +kernel
theorem dX8_init_0 : decode cX8_init 0 = .ok (.aload_n 0, 1) := by decide +kernel
theorem dX8_init_1 : decode cX8_init 1 = .ok (.invokespecial 1, 3) := by decide +kernel
theorem dX8_init_4 : decode cX8_init 4 = .ok (.aload_n 0, 1) := by decide +kernel
theorem dX8_init_5 : decode cX8_init 5 = .ok (.iconst 4, 1) := by decide +kernel
theorem dX8_init_6 : decode cX8_init 6 = .ok (.newarray .int, 2) := by decide +kernel
theorem dX8_init_8 : decode cX8_init 8 = .ok (.dup, 1) := by decide +kernel
theorem dX8_init_9 : decode cX8_init 9 = .ok (.iconst 0, 1) := by decide +kernel
theorem dX8_init_10 : decode cX8_init 10 = .ok (.iconst (-1), 1) := by decide +kernel
theorem dX8_init_11 : decode cX8_init 11 = .ok (.iastore, 1) := by decide +kernel
theorem dX8_init_12 : decode cX8_init 12 = .ok (.dup, 1) := by decide +kernel
theorem dX8_init_13 : decode cX8_init 13 = .ok (.iconst 1, 1) := by decide +kernel
theorem dX8_init_14 : decode cX8_init 14 = .ok (.iconst (-1), 1) := by decide +kernel
theorem dX8_init_15 : decode cX8_init 15 = .ok (.iastore, 1) := by decide +kernel
theorem dX8_init_16 : decode cX8_init 16 = .ok (.dup, 1) := by decide +kernel
theorem dX8_init_17 : decode cX8_init 17 = .ok (.iconst 2, 1) := by decide +kernel
theorem dX8_init_18 : decode cX8_init 18 = .ok (.iconst (-1), 1) := by decide +kernel
theorem dX8_init_19 : decode cX8_init 19 = .ok (.iastore, 1) := by decide +kernel
theorem dX8_init_20 : decode cX8_init 20 = .ok (.dup, 1) := by decide +kernel
theorem dX8_init_21 : decode cX8_init 21 = .ok (.iconst 3, 1) := by decide +kernel
theorem dX8_init_22 : decode cX8_init 22 = .ok (.iconst (-1), 1) := by decide +kernel
theorem dX8_init_23 : decode cX8_init 23 = .ok (.iastore, 1) := by decide +kernel
theorem dX8_init_24 : decode cX8_init 24 = .ok (.putfield 9, 3) := by decide +kernel
theorem dX8_init_27 : decode cX8_init 27 = .ok (.aload_n 0, 1) := by decide +kernel
theorem dX8_init_28 : decode cX8_init 28 = .ok (.iconst 4, 1) := by decide +kernel
theorem dX8_init_29 : decode cX8_init 29 = .ok (.newarray .int, 2) := by decide +kernel
theorem dX8_init_31 : decode cX8_init 31 = .ok (.putfield 13, 3) := by decide +kernel
theorem dX8_init_34 : decode cX8_init 34 = .ok (.aload_n 0, 1) := by decide +kernel
theorem dX8_init_35 : decode cX8_init 35 = .ok (.sipush 240, 3) := by decide +kernel
theorem dX8_init_38 : decode cX8_init 38 = .ok (.newarray .long, 2) := by decide +kernel
theorem dX8_init_40 : decode cX8_init 40 = .ok (.putfield 16, 3) := by decide +kernel
theorem dX8_init_43 : decode cX8_init 43 = .ok (.aload_n 0, 1) := by decide +kernel
theorem dX8_init_44 : decode cX8_init 44 = .ok (.bipush 60, 2) := by decide +kernel
theorem dX8_init_46 : decode cX8_init 46 = .ok (.newarray .long, 2) := by decide +kernel
theorem dX8_init_48 : decode cX8_init 48 = .ok (.putfield 20, 3) := by decide +kernel
theorem dX8_init_51 : decode cX8_init 51 = .ok (.aload_n 0, 1) := by decide +kernel
theorem dX8_init_52 : decode cX8_init 52 = .ok (.iconst 2, 1) := by decide +kernel
theorem dX8_init_53 : decode cX8_init 53 = .ok (.putfield 23, 3) := by decide +kernel
theorem dX8_init_56 : decode cX8_init 56 = .ok (.aload_n 0, 1) := by decide +kernel
theorem dX8_init_57 : decode cX8_init 57 = .ok (.bipush 100, 2) := by decide +kernel
theorem dX8_init_59 : decode cX8_init 59 = .ok (.putfield 27, 3) := by decide +kernel
theorem dX8_init_62 : decode cX8_init 62 = .ok (.aload_n 0, 1) := by decide +kernel
theorem dX8_init_63 : decode cX8_init 63 = .ok (.bipush 8, 2) := by decide +kernel
theorem dX8_init_65 : decode cX8_init 65 = .ok (.putfield 30, 3) := by decide +kernel
theorem dX8_init_68 : decode cX8_init 68 = .ok (.aload_n 0, 1) := by decide +kernel
theorem dX8_init_69 : decode cX8_init 69 = .ok (.iconst 2, 1) := by decide +kernel
theorem dX8_init_70 : decode cX8_init 70 = .ok (.putfield 33, 3) := by decide +kernel
theorem dX8_init_73 : decode cX8_init 73 = .ok (.aload_n 0, 1) := by decide +kernel
theorem dX8_init_74 : decode cX8_init 74 = .ok (.iconst (-1), 1) := by decide +kernel
theorem dX8_init_75 : decode cX8_init 75 = .ok (.putfield 36, 3) := by decide +kernel
theorem dX8_init_78 : decode cX8_init 78 = .ok (.aload_n 0, 1) := by decide +kernel
theorem dX8_init_79 : decode cX8_init 79 = .ok (.bipush 10, 2) := by decide +kernel
theorem dX8_init_81 : decode cX8_init 81 = .ok (.newarray .int, 2) := by decide +kernel
theorem dX8_init_83 : decode cX8_init 83 = .ok (.putfield 39, 3) := by decide +kernel
theorem dX8_init_86 : decode cX8_init 86 = .ok (.aload_n 0, 1) := by decide +kernel
theorem dX8_init_87 : decode cX8_init 87 = .ok (.bipush 10, 2) := by decide +kernel
theorem dX8_init_89 : decode cX8_init 89 = .ok (.newarray .int, 2) := by decide +kernel
theorem dX8_init_91 : decode cX8_init 91 = .ok (.putfield 42, 3) := by decide +kernel
theorem dX8_init_94 : decode cX8_init 94 = .ok (.aload_n 0, 1) := by decide +kernel
theorem dX8_init_95 : decode cX8_init 95 = .ok (.bipush 10, 2) := by decide +kernel
theorem dX8_init_97 : decode cX8_init 97 = .ok (.newarray .int, 2) := by decide +kernel
theorem dX8_init_99 : decode cX8_init 99 = .ok (.putfield 45, 3) := by decide +kernel
theorem dX8_init_102 : decode cX8_init 102 = .ok (.aload_n 0, 1) := by decide +kernel
theorem dX8_init_103 : decode cX8_init 103 = .ok (.bipush 10, 2) := by decide +kernel
theorem dX8_init_105 : decode cX8_init 105 = .ok (.newarray .int, 2) := by decide +kernel
theorem dX8_init_107 : decode cX8_init 107 = .ok (.putfield 48, 3) := by decide +kernel
theorem dX8_init_110 : decode cX8_init 110 = .ok (.aload_n 0, 1) := by decide +kernel
theorem dX8_init_111 : decode cX8_init 111 = .ok (.bipush 10, 2) := by decide +kernel
theorem dX8_init_113 : decode cX8_init 113 = .ok (.newarray .int, 2) := by decide +kernel
theorem dX8_init_115 : decode cX8_init 115 = .ok (.putfield 51, 3) := by decide +kernel
theorem dX8_init_118 : decode cX8_init 118 = .ok (.aload_n 0, 1) := by decide +kernel
theorem dX8_init_119 : decode cX8_init 119 = .ok (.bipush 10, 2) := by decide +kernel
theorem dX8_init_121 : decode cX8_init 121 = .ok (.newarray .int, 2) := by decide +kernel
theorem dX8_init_123 : decode cX8_init 123 = .ok (.putfield 54, 3) := by decide +kernel
theorem dX8_init_126 : decode cX8_init 126 = .ok (.aload_n 0, 1) := by decide +kernel
theorem dX8_init_127 : decode cX8_init 127 = .ok (.bipush 10, 2) := by decide +kernel
theorem dX8_init_129 : decode cX8_init 129 = .ok (.newarray .int, 2) := by decide +kernel
theorem dX8_init_131 : decode cX8_init 131 = .ok (.putfield 57, 3) := by decide +kernel
theorem dX8_init_134 : decode cX8_init 134 = .ok (.aload_n 0, 1) := by decide +kernel
theorem dX8_init_135 : decode cX8_init 135 = .ok (.bipush 10, 2) := by decide +kernel
theorem dX8_init_137 : decode cX8_init 137 = .ok (.newarray .int, 2) := by decide +kernel
theorem dX8_init_139 : decode cX8_init 139 = .ok (.putfield 60, 3) := by decide +kernel
theorem dX8_init_142 : decode cX8_init 142 = .ok (.aload_n 0, 1) := by decide +kernel
theorem dX8_init_143 : decode cX8_init 143 = .ok (.bipush 10, 2) := by decide +kernel
theorem dX8_init_145 : decode cX8_init 145 = .ok (.newarray .int, 2) := by decide +kernel
theorem dX8_init_147 : decode cX8_init 147 = .ok (.putfield 63, 3) := by decide +kernel
theorem dX8_init_150 : decode cX8_init 150 = .ok (.aload_n 0, 1) := by decide +kernel
theorem dX8_init_151 : decode cX8_init 151 = .ok (.bipush 10, 2) := by decide +kernel
theorem dX8_init_153 : decode cX8_init 153 = .ok (.newarray .int, 2) := by decide +kernel
theorem dX8_init_155 : decode cX8_init 155 = .ok (.putfield 66, 3) := by decide +kernel
theorem dX8_init_158 : decode cX8_init 158 = .ok (.aload_n 0, 1) := by decide +kernel
theorem dX8_init_159 : decode cX8_init 159 = .ok (.bipush 10, 2) := by decide +kernel
theorem dX8_init_161 : decode cX8_init 161 = .ok (.newarray .int, 2) := by decide +kernel
theorem dX8_init_163 : decode cX8_init 163 = .ok (.putfield 69, 3) := by decide +kernel
theorem dX8_init_166 : decode cX8_init 166 = .ok (.aload_n 0, 1) := by decide +kernel
theorem dX8_init_167 : decode cX8_init 167 = .ok (.bipush 10, 2) := by decide +kernel
theorem dX8_init_169 : decode cX8_init 169 = .ok (.newarray .int, 2) := by decide +kernel
theorem dX8_init_171 : decode cX8_init 171 = .ok (.putfield 72, 3) := by decide +kernel
theorem dX8_init_174 : decode cX8_init 174 = .ok (.aload_n 0, 1) := by decide +kernel
theorem dX8_init_175 : decode cX8_init 175 = .ok (.iconst 3, 1) := by decide +kernel
theorem dX8_init_176 : decode cX8_init 176 = .ok (.newarray .int, 2) := by decide +kernel
theorem dX8_init_178 : decode cX8_init 178 = .ok (.dup, 1) := by decide +kernel
theorem dX8_init_179 : decode cX8_init 179 = .ok (.iconst 0, 1) := by decide +kernel
theorem dX8_init_180 : decode cX8_init 180 = .ok (.bipush 10, 2) := by decide +kernel
theorem dX8_init_182 : decode cX8_init 182 = .ok (.iastore, 1) := by decide +kernel
theorem dX8_init_183 : decode cX8_init 183 = .ok (.dup, 1) := by decide +kernel
theorem dX8_init_184 : decode cX8_init 184 = .ok (.iconst 1, 1) := by decide +kernel
theorem dX8_init_185 : decode cX8_init 185 = .ok (.bipush 10, 2) := by decide +kernel
theorem dX8_init_187 : decode cX8_init 187 = .ok (.iastore, 1) := by decide +kernel
theorem dX8_init_188 : decode cX8_init 188 = .ok (.dup, 1) := by decide +kernel
theorem dX8_init_189 : decode cX8_init 189 = .ok (.iconst 2, 1) := by decide +kernel
theorem dX8_init_190 : decode cX8_init 190 = .ok (.bipush 10, 2) := by decide +kernel
theorem dX8_init_192 : decode cX8_init 192 = .ok (.iastore, 1) := by decide +kernel
theorem dX8_init_193 : decode cX8_init 193 = .ok (.putfield 75, 3) := by decide +kernel
theorem dX8_init_196 : decode cX8_init 196 = .ok (.aload_n 0, 1) := by decide +kernel
theorem dX8_init_197 : decode cX8_init 197 = .ok (.iconst 3, 1) := by decide +kernel
theorem dX8_init_198 : decode cX8_init 198 = .ok (.newarray .boolean, 2) := by decide +kernel
theorem dX8_init_200 : decode cX8_init 200 = .ok (.dup, 1) := by decide +kernel
theorem dX8_init_201 : decode cX8_init 201 = .ok (.iconst 0, 1) := by decide +kernel
theorem dX8_init_202 : decode cX8_init 202 = .ok (.iconst 1, 1) := by decide +kernel
theorem dX8_init_203 : decode cX8_init 203 = .ok (.bastore, 1) := by decide +kernel
theorem dX8_init_204 : decode cX8_init 204 = .ok (.dup, 1) := by decide +kernel
theorem dX8_init_205 : decode cX8_init 205 = .ok (.iconst 1, 1) := by decide +kernel
theorem dX8_init_206 : decode cX8_init 206 = .ok (.iconst 1, 1) := by decide +kernel
theorem dX8_init_207 : decode cX8_init 207 = .ok (.bastore, 1) := by decide +kernel
theorem dX8_init_208 : decode cX8_init 208 = .ok (.dup, 1) := by decide +kernel
theorem dX8_init_209 : decode cX8_init 209 = .ok (.iconst 2, 1) := by decide +kernel
theorem dX8_init_210 : decode cX8_init 210 = .ok (.iconst 1, 1) := by decide +kernel
theorem dX8_init_211 : decode cX8_init 211 = .ok (.bastore, 1) := by decide +kernel
theorem dX8_init_212 : decode cX8_init 212 = .ok (.putfield 78, 3) := by decide +kernel
theorem dX8_init_215 : decode cX8_init 215 = .ok (.aload_n 0, 1) := by decide +kernel
theorem dX8_init_216 : decode cX8_init 216 = .ok (.bipush 100, 2) := by decide +kernel
theorem dX8_init_218 : decode cX8_init 218 = .ok (.newarray .int, 2) := by decide +kernel
theorem dX8_init_220 : decode cX8_init 220 = .ok (.putfield 82, 3) := by decide +kernel
theorem dX8_init_223 : decode cX8_init 223 = .ok (.aload_n 0, 1) := by decide +kernel
theorem dX8_init_224 : decode cX8_init 224 = .ok (.sipush 210, 3) := by decide +kernel
theorem dX8_init_227 : decode cX8_init 227 = .ok (.newarray .int, 2) := by decide +kernel
theorem dX8_init_229 : decode cX8_init 229 = .ok (.putfield 85, 3) := by decide +kernel
theorem dX8_init_232 : decode cX8_init 232 = .ok (.aload_n 0, 1) := by decide +kernel
theorem dX8_init_233 : decode cX8_init 233 = .ok (.bipush 10, 2) := by decide +kernel
theorem dX8_init_235 : decode cX8_init 235 = .ok (.newarray .long, 2) := by decide +kernel
theorem dX8_init_237 : decode cX8_init 237 = .ok (.putfield 88, 3) := by decide +kernel
theorem dX8_init_240 : decode cX8_init 240 = .ok (.aload_n 0, 1) := by decide +kernel
theorem dX8_init_241 : decode cX8_init 241 = .ok (.bipush 10, 2) := by decide +kernel
theorem dX8_init_243 : decode cX8_init 243 = .ok (.newarray .long, 2) := by decide +kernel
theorem dX8_init_245 : decode cX8_init 245 = .ok (.putfield 91, 3) := by decide +kernel
theorem dX8_init_248 : decode cX8_init 248 = .ok (.aload_n 0, 1) := by decide +kernel
theorem dX8_init_249 : decode cX8_init 249 = .ok (.bipush 10, 2) := by decide +kernel
theorem dX8_init_251 : decode cX8_init 251 = .ok (.newarray .long, 2) := by decide +kernel
theorem dX8_init_253 : decode cX8_init 253 = .ok (.putfield 94, 3) := by decide +kernel
theorem dX8_init_256 : decode cX8_init 256 = .ok (.aload_n 0, 1) := by decide +kernel
theorem dX8_init_257 : decode cX8_init 257 = .ok (.ldc 97, 2) := by decide +kernel
theorem dX8_init_259 : decode cX8_init 259 = .ok (.newarray .int, 2) := by decide +kernel
theorem dX8_init_261 : decode cX8_init 261 = .ok (.putfield 98, 3) := by decide +kernel
theorem dX8_init_264 : decode cX8_init 264 = .ok (.aload_n 0, 1) := by decide +kernel
theorem dX8_init_265 : decode cX8_init 265 = .ok (.sipush 5000, 3) := by decide +kernel
theorem dX8_init_268 : decode cX8_init 268 = .ok (.newarray .int, 2) := by decide +kernel
theorem dX8_init_270 : decode cX8_init 270 = .ok (.putfield 101, 3) := by decide +kernel
theorem dX8_init_273 : decode cX8_init 273 = .ok (.aload_n 0, 1) := by decide +kernel
theorem dX8_init_274 : decode cX8_init 274 = .ok (.sipush 5000, 3) := by decide +kernel
theorem dX8_init_277 : decode cX8_init 277 = .ok (.newarray .int, 2) := by decide +kernel
theorem dX8_init_279 : decode cX8_init 279 = .ok (.putfield 104, 3) := by decide +kernel
theorem dX8_init_282 : decode cX8_init 282 = .ok (.aload_n 0, 1) := by decide +kernel
theorem dX8_init_283 : decode cX8_init 283 = .ok (.sipush 5000, 3) := by decide +kernel
theorem dX8_init_286 : decode cX8_init 286 = .ok (.newarray .int, 2) := by decide +kernel
theorem dX8_init_288 : decode cX8_init 288 = .ok (.putfield 107, 3) := by decide +kernel
theorem dX8_init_291 : decode cX8_init 291 = .ok (.aload_n 0, 1) := by decide +kernel
theorem dX8_init_292 : decode cX8_init 292 = .ok (.bipush 10, 2) := by decide +kernel
theorem dX8_init_294 : decode cX8_init 294 = .ok (.newarray .int, 2) := by decide +kernel
theorem dX8_init_296 : decode cX8_init 296 = .ok (.putfield 110, 3) := by decide +kernel
theorem dX8_init_299 : decode cX8_init 299 = .ok (.aload_n 0, 1) := by decide +kernel
theorem dX8_init_300 : decode cX8_init 300 = .ok (.sipush 8192, 3) := by decide +kernel
theorem dX8_init_303 : decode cX8_init 303 = .ok (.newarray .int, 2) := by decide +kernel
theorem dX8_init_305 : decode cX8_init 305 = .ok (.putfield 113, 3) := by decide +kernel
theorem dX8_init_308 : decode cX8_init 308 = .ok (.aload_n 0, 1) := by decide +kernel
theorem dX8_init_309 : decode cX8_init 309 = .ok (.sipush 5000, 3) := by decide +kernel
theorem dX8_init_312 : decode cX8_init 312 = .ok (.newarray .int, 2) := by decide +kernel
theorem dX8_init_314 : decode cX8_init 314 = .ok (.putfield 116, 3) := by decide +kernel
theorem dX8_init_317 : decode cX8_init 317 = .ok (.aload_n 0, 1) := by decide +kernel
theorem dX8_init_318 : decode cX8_init 318 = .ok (.sipush 1024, 3) := by decide +kernel
theorem dX8_init_321 : decode cX8_init 321 = .ok (.newarray .boolean, 2) := by decide +kernel
theorem dX8_init_323 : decode cX8_init 323 = .ok (.putfield 119, 3) := by decide +kernel
theorem dX8_init_326 : decode cX8_init 326 = .ok (.aload_n 0, 1) := by decide +kernel
theorem dX8_init_327 : decode cX8_init 327 = .ok (.bipush 40, 2) := by decide +kernel
theorem dX8_init_329 : decode cX8_init 329 = .ok (.newarray .int, 2) := by decide +kernel
theorem dX8_init_331 : decode cX8_init 331 = .ok (.putfield 122, 3) := by decide +kernel
theorem dX8_init_334 : decode cX8_init 334 = .ok (.aload_n 0, 1) := by decide +kernel
theorem dX8_init_335 : decode cX8_init 335 = .ok (.bipush 40, 2) := by decide +kernel
theorem dX8_init_337 : decode cX8_init 337 = .ok (.newarray .int, 2) := by decide +kernel
theorem dX8_init_339 : decode cX8_init 339 = .ok (.putfield 125, 3) := by decide +kernel
theorem dX8_init_342 : decode cX8_init 342 = .ok (.aload_n 0, 1) := by decide +kernel
theorem dX8_init_343 : decode cX8_init 343 = .ok (.bipush 40, 2) := by decide +kernel
theorem dX8_init_345 : decode cX8_init 345 = .ok (.newarray .int, 2) := by decide +kernel
theorem dX8_init_347 : decode cX8_init 347 = .ok (.putfield 128, 3) := by decide +kernel
theorem dX8_init_350 : decode cX8_init 350 = .ok (.aload_n 0, 1) := by decide +kernel
theorem dX8_init_351 : decode cX8_init 351 = .ok (.sipush 360, 3) := by decide +kernel
theorem dX8_init_354 : decode cX8_init 354 = .ok (.newarray .int, 2) := by decide +kernel
theorem dX8_init_356 : decode cX8_init 356 = .ok (.putfield 131, 3) := by decide +kernel
theorem dX8_init_359 : decode cX8_init 359 = .ok (.aload_n 0, 1) := by decide +kernel
theorem dX8_init_360 : decode cX8_init 360 = .ok (.bipush 10, 2) := by decide +kernel
theorem dX8_init_362 : decode cX8_init 362 = .ok (.newarray .int, 2) := by decide +kernel
theorem dX8_init_364 : decode cX8_init 364 = .ok (.putfield 134, 3) := by decide +kernel
theorem dX8_init_367 : decode cX8_init 367 = .ok (.aload_n 0, 1) := by decide +kernel
theorem dX8_init_368 : decode cX8_init 368 = .ok (.getfield 131, 3) := by decide +kernel
theorem dX8_init_371 : decode cX8_init 371 = .ok (.iconst 0, 1) := by decide +kernel
theorem dX8_init_372 : decode cX8_init 372 = .ok (.iconst 0, 1) := by decide +kernel
theorem dX8_init_373 : decode cX8_init 373 = .ok (.iastore, 1) := by decide +kernel
theorem dX8_init_374 : decode cX8_init 374 = .ok (.return_, 1) := by decide +kernel
theorem dX8_in_0 : decode cX8_in 0 = .ok (.lload_n 0, 1) := by decide +kernel
theorem dX8_in_1 : decode cX8_in 1 = .ok (.lload_n 2, 1) := by decide +kernel
theorem dX8_in_2 : decode cX8_in 2 = .ok (.lcmp, 1) := by decide +kernel
theorem dX8_in_3 : decode cX8_in 3 = .ok (.ifCond .lt 14, 3) := by decide +kernel
theorem dX8_in_6 : decode cX8_in 6 = .ok (.lload_n 0, 1) := by decide +kernel
theorem dX8_in_7 : decode cX8_in 7 = .ok (.lload 4, 2) := by decide +kernel
theorem dX8_in_9 : decode cX8_in 9 = .ok (.lcmp, 1) := by decide +kernel
theorem dX8_in_10 : decode cX8_in 10 = .ok (.ifCond .gt 7, 3) := by decide +kernel
theorem dX8_in_13 : decode cX8_in 13 = .ok (.iconst 1, 1) := by decide +kernel
theorem dX8_in_14 : decode cX8_in 14 = .ok (.goto 4, 3) := by decide +kernel
theorem dX8_in_17 : decode cX8_in 17 = .ok (.iconst 0, 1) := by decide +kernel
theorem dX8_in_18 : decode cX8_in 18 = .ok (.ireturn, 1) := by decide +kernel
theorem dX8_isPlace_0 : decode cX8_isPlace 0 = .ok (.iload_n 0, 1) := by decide +kernel
theorem dX8_isPlace_1 : decode cX8_isPlace 1 = .ok (.i2l, 1) := by decide +kernel
theorem dX8_isPlace_2 : decode cX8_isPlace 2 = .ok (.lconst 0, 1) := by decide +kernel
theorem dX8_isPlace_3 : decode cX8_isPlace 3 = .ok (.ldc2_w 140, 3) := by decide +kernel
theorem dX8_isPlace_6 : decode cX8_isPlace 6 = .ok (.invokestatic 142, 3) := by decide +kernel
theorem dX8_isPlace_9 : decode cX8_isPlace 9 = .ok (.ireturn, 1) := by decide +kernel
theorem dX8_cut_0 : decode cX8_cut 0 = .ok (.iload_n 0, 1) := by decide +kernel
theorem dX8_cut_1 : decode cX8_cut 1 = .ok (.ifCond .ne 10, 3) := by decide +kernel
theorem dX8_cut_4 : decode cX8_cut 4 = .ok (.lload_n 1, 1) := by decide +kernel
theorem dX8_cut_5 : decode cX8_cut 5 = .ok (.l2i, 1) := by decide +kernel
theorem dX8_cut_6 : decode cX8_cut 6 = .ok (.i2b, 1) := by decide +kernel
theorem dX8_cut_7 : decode cX8_cut 7 = .ok (.i2l, 1) := by decide +kernel
theorem dX8_cut_8 : decode cX8_cut 8 = .ok (.goto 27, 3) := by decide +kernel
theorem dX8_cut_11 : decode cX8_cut 11 = .ok (.iload_n 0, 1) := by decide +kernel
theorem dX8_cut_12 : decode cX8_cut 12 = .ok (.iconst 1, 1) := by decide +kernel
theorem dX8_cut_13 : decode cX8_cut 13 = .ok (.if_icmp .ne 10, 3) := by decide +kernel
theorem dX8_cut_16 : decode cX8_cut 16 = .ok (.lload_n 1, 1) := by decide +kernel
theorem dX8_cut_17 : decode cX8_cut 17 = .ok (.l2i, 1) := by decide +kernel
theorem dX8_cut_18 : decode cX8_cut 18 = .ok (.i2s, 1) := by decide +kernel
theorem dX8_cut_19 : decode cX8_cut 19 = .ok (.i2l, 1) := by decide +kernel
theorem dX8_cut_20 : decode cX8_cut 20 = .ok (.goto 15, 3) := by decide +kernel
theorem dX8_cut_23 : decode cX8_cut 23 = .ok (.iload_n 0, 1) := by decide +kernel
theorem dX8_cut_24 : decode cX8_cut 24 = .ok (.iconst 2, 1) := by decide +kernel
theorem dX8_cut_25 : decode cX8_cut 25 = .ok (.if_icmp .ne 9, 3) := by decide +kernel
theorem dX8_cut_28 : decode cX8_cut 28 = .ok (.lload_n 1, 1) := by decide +kernel
theorem dX8_cut_29 : decode cX8_cut 29 = .ok (.l2i, 1) := by decide +kernel
theorem dX8_cut_30 : decode cX8_cut 30 = .ok (.i2l, 1) := by decide +kernel
theorem dX8_cut_31 : decode cX8_cut 31 = .ok (.goto 4, 3) := by decide +kernel
theorem dX8_cut_34 : decode cX8_cut 34 = .ok (.lload_n 1, 1) := by decide +kernel
theorem dX8_cut_35 : decode cX8_cut 35 = .ok (.lreturn, 1) := by decide +kernel
theorem dX8_row_0 : decode cX8_row 0 = .ok (.aload_n 0, 1) := by decide +kernel
theorem dX8_row_1 : decode cX8_row 1 = .ok (.iconst 0, 1) := by decide +kernel
theorem dX8_row_2 : decode cX8_row 2 = .ok (.putfield 137, 3) := by decide +kernel
theorem dX8_row_5 : decode cX8_row 5 = .ok (.iload_n 1, 1) := by decide +kernel
theorem dX8_row_6 : decode cX8_row 6 = .ok (.invokestatic 146, 3) := by decide +kernel
theorem dX8_row_9 : decode cX8_row 9 = .ok (.ifCond .eq 21, 3) := by decide +kernel
theorem dX8_row_12 : decode cX8_row 12 = .ok (.iload_n 2, 1) := by decide +kernel
theorem dX8_row_13 : decode cX8_row 13 = .ok (.i2l, 1) := by decide +kernel
theorem dX8_row_14 : decode cX8_row 14 = .ok (.lconst 0, 1) := by decide +kernel
theorem dX8_row_15 : decode cX8_row 15 = .ok (.ldc2_w 140, 3) := by decide +kernel
theorem dX8_row_18 : decode cX8_row 18 = .ok (.invokestatic 142, 3) := by decide +kernel
theorem dX8_row_21 : decode cX8_row 21 = .ok (.ifCond .eq 9, 3) := by decide +kernel
theorem dX8_row_24 : decode cX8_row 24 = .ok (.iload_n 3, 1) := by decide +kernel
theorem dX8_row_25 : decode cX8_row 25 = .ok (.bipush 60, 2) := by decide +kernel
theorem dX8_row_27 : decode cX8_row 27 = .ok (.if_icmp .le 6, 3) := by decide +kernel
theorem dX8_row_30 : decode cX8_row 30 = .ok (.bipush (-2), 2) := by decide +kernel
theorem dX8_row_32 : decode cX8_row 32 = .ok (.ireturn, 1) := by decide +kernel
theorem dX8_row_33 : decode cX8_row 33 = .ok (.iload_n 3, 1) := by decide +kernel
theorem dX8_row_34 : decode cX8_row 34 = .ok (.ifCond .ge 6, 3) := by decide +kernel
theorem dX8_row_37 : decode cX8_row 37 = .ok (.bipush (-3), 2) := by decide +kernel
theorem dX8_row_39 : decode cX8_row 39 = .ok (.ireturn, 1) := by decide +kernel
theorem dX8_row_40 : decode cX8_row 40 = .ok (.aload_n 0, 1) := by decide +kernel
theorem dX8_row_41 : decode cX8_row 41 = .ok (.getfield 9, 3) := by decide +kernel
theorem dX8_row_44 : decode cX8_row 44 = .ok (.iload_n 1, 1) := by decide +kernel
theorem dX8_row_45 : decode cX8_row 45 = .ok (.iload_n 2, 1) := by decide +kernel
theorem dX8_row_46 : decode cX8_row 46 = .ok (.iastore, 1) := by decide +kernel
theorem dX8_row_47 : decode cX8_row 47 = .ok (.aload_n 0, 1) := by decide +kernel
theorem dX8_row_48 : decode cX8_row 48 = .ok (.getfield 13, 3) := by decide +kernel
theorem dX8_row_51 : decode cX8_row 51 = .ok (.iload_n 1, 1) := by decide +kernel
theorem dX8_row_52 : decode cX8_row 52 = .ok (.iload_n 3, 1) := by decide +kernel
theorem dX8_row_53 : decode cX8_row 53 = .ok (.iastore, 1) := by decide +kernel
theorem dX8_row_54 : decode cX8_row 54 = .ok (.iconst 0, 1) := by decide +kernel
theorem dX8_row_55 : decode cX8_row 55 = .ok (.istore 4, 2) := by decide +kernel
theorem dX8_row_57 : decode cX8_row 57 = .ok (.iload 4, 2) := by decide +kernel
theorem dX8_row_59 : decode cX8_row 59 = .ok (.bipush 60, 2) := by decide +kernel
theorem dX8_row_61 : decode cX8_row 61 = .ok (.if_icmp .ge 22, 3) := by decide +kernel
theorem dX8_row_64 : decode cX8_row 64 = .ok (.aload_n 0, 1) := by decide +kernel
theorem dX8_row_65 : decode cX8_row 65 = .ok (.getfield 16, 3) := by decide +kernel
theorem dX8_row_68 : decode cX8_row 68 = .ok (.bipush 60, 2) := by decide +kernel
theorem dX8_row_70 : decode cX8_row 70 = .ok (.iload_n 1, 1) := by decide +kernel
theorem dX8_row_71 : decode cX8_row 71 = .ok (.imul, 1) := by decide +kernel
theorem dX8_row_72 : decode cX8_row 72 = .ok (.iload 4, 2) := by decide +kernel
theorem dX8_row_74 : decode cX8_row 74 = .ok (.iadd, 1) := by decide +kernel
theorem dX8_row_75 : decode cX8_row 75 = .ok (.lconst 0, 1) := by decide +kernel
theorem dX8_row_76 : decode cX8_row 76 = .ok (.lastore, 1) := by decide +kernel
theorem dX8_row_77 : decode cX8_row 77 = .ok (.iinc 4 1, 3) := by decide +kernel
theorem dX8_row_80 : decode cX8_row 80 = .ok (.goto (-23), 3) := by decide +kernel
theorem dX8_row_83 : decode cX8_row 83 = .ok (.iconst 0, 1) := by decide +kernel
theorem dX8_row_84 : decode cX8_row 84 = .ok (.ireturn, 1) := by decide +kernel
theorem dX8_tear_0 : decode cX8_tear 0 = .ok (.aload_n 0, 1) := by decide +kernel
theorem dX8_tear_1 : decode cX8_tear 1 = .ok (.iconst 0, 1) := by decide +kernel
theorem dX8_tear_2 : decode cX8_tear 2 = .ok (.putfield 137, 3) := by decide +kernel
theorem dX8_tear_5 : decode cX8_tear 5 = .ok (.iload_n 1, 1) := by decide +kernel
theorem dX8_tear_6 : decode cX8_tear 6 = .ok (.invokestatic 146, 3) := by decide +kernel
theorem dX8_tear_9 : decode cX8_tear 9 = .ok (.ifCond .eq 12, 3) := by decide +kernel
theorem dX8_tear_12 : decode cX8_tear 12 = .ok (.aload_n 0, 1) := by decide +kernel
theorem dX8_tear_13 : decode cX8_tear 13 = .ok (.getfield 9, 3) := by decide +kernel
theorem dX8_tear_16 : decode cX8_tear 16 = .ok (.iload_n 1, 1) := by decide +kernel
theorem dX8_tear_17 : decode cX8_tear 17 = .ok (.iaload, 1) := by decide +kernel
theorem dX8_tear_18 : decode cX8_tear 18 = .ok (.ifCond .ge 5, 3) := by decide +kernel
theorem dX8_tear_21 : decode cX8_tear 21 = .ok (.iconst 0, 1) := by decide +kernel
theorem dX8_tear_22 : decode cX8_tear 22 = .ok (.ireturn, 1) := by decide +kernel
theorem dX8_tear_23 : decode cX8_tear 23 = .ok (.aload_n 0, 1) := by decide +kernel
theorem dX8_tear_24 : decode cX8_tear 24 = .ok (.getfield 9, 3) := by decide +kernel
theorem dX8_tear_27 : decode cX8_tear 27 = .ok (.iload_n 1, 1) := by decide +kernel
theorem dX8_tear_28 : decode cX8_tear 28 = .ok (.iconst (-1), 1) := by decide +kernel
theorem dX8_tear_29 : decode cX8_tear 29 = .ok (.iastore, 1) := by decide +kernel
theorem dX8_tear_30 : decode cX8_tear 30 = .ok (.iconst 1, 1) := by decide +kernel
theorem dX8_tear_31 : decode cX8_tear 31 = .ok (.ireturn, 1) := by decide +kernel
theorem dX8_write_0 : decode cX8_write 0 = .ok (.aload_n 0, 1) := by decide +kernel
theorem dX8_write_1 : decode cX8_write 1 = .ok (.iconst 0, 1) := by decide +kernel
theorem dX8_write_2 : decode cX8_write 2 = .ok (.putfield 137, 3) := by decide +kernel
theorem dX8_write_5 : decode cX8_write 5 = .ok (.iload_n 1, 1) := by decide +kernel
theorem dX8_write_6 : decode cX8_write 6 = .ok (.invokestatic 146, 3) := by decide +kernel
theorem dX8_write_9 : decode cX8_write 9 = .ok (.ifCond .ne 6, 3) := by decide +kernel
theorem dX8_write_12 : decode cX8_write 12 = .ok (.bipush (-2), 2) := by decide +kernel
theorem dX8_write_14 : decode cX8_write 14 = .ok (.ireturn, 1) := by decide +kernel
theorem dX8_write_15 : decode cX8_write 15 = .ok (.aload_n 0, 1) := by decide +kernel
theorem dX8_write_16 : decode cX8_write 16 = .ok (.getfield 9, 3) := by decide +kernel
theorem dX8_write_19 : decode cX8_write 19 = .ok (.iload_n 1, 1) := by decide +kernel
theorem dX8_write_20 : decode cX8_write 20 = .ok (.iaload, 1) := by decide +kernel
theorem dX8_write_21 : decode cX8_write 21 = .ok (.ifCond .ge 6, 3) := by decide +kernel
theorem dX8_write_24 : decode cX8_write 24 = .ok (.bipush (-5), 2) := by decide +kernel
theorem dX8_write_26 : decode cX8_write 26 = .ok (.ireturn, 1) := by decide +kernel
theorem dX8_write_27 : decode cX8_write 27 = .ok (.iload_n 2, 1) := by decide +kernel
theorem dX8_write_28 : decode cX8_write 28 = .ok (.i2l, 1) := by decide +kernel
theorem dX8_write_29 : decode cX8_write 29 = .ok (.lconst 0, 1) := by decide +kernel
theorem dX8_write_30 : decode cX8_write 30 = .ok (.aload_n 0, 1) := by decide +kernel
theorem dX8_write_31 : decode cX8_write 31 = .ok (.getfield 13, 3) := by decide +kernel
theorem dX8_write_34 : decode cX8_write 34 = .ok (.iload_n 1, 1) := by decide +kernel
theorem dX8_write_35 : decode cX8_write 35 = .ok (.iaload, 1) := by decide +kernel
theorem dX8_write_36 : decode cX8_write 36 = .ok (.iconst 1, 1) := by decide +kernel
theorem dX8_write_37 : decode cX8_write 37 = .ok (.isub, 1) := by decide +kernel
theorem dX8_write_38 : decode cX8_write 38 = .ok (.i2l, 1) := by decide +kernel
theorem dX8_write_39 : decode cX8_write 39 = .ok (.invokestatic 142, 3) := by decide +kernel
theorem dX8_write_42 : decode cX8_write 42 = .ok (.ifCond .ne 6, 3) := by decide +kernel
theorem dX8_write_45 : decode cX8_write 45 = .ok (.bipush (-6), 2) := by decide +kernel
theorem dX8_write_47 : decode cX8_write 47 = .ok (.ireturn, 1) := by decide +kernel
theorem dX8_write_48 : decode cX8_write 48 = .ok (.aload_n 0, 1) := by decide +kernel
theorem dX8_write_49 : decode cX8_write 49 = .ok (.getfield 16, 3) := by decide +kernel
theorem dX8_write_52 : decode cX8_write 52 = .ok (.bipush 60, 2) := by decide +kernel
theorem dX8_write_54 : decode cX8_write 54 = .ok (.iload_n 1, 1) := by decide +kernel
theorem dX8_write_55 : decode cX8_write 55 = .ok (.imul, 1) := by decide +kernel
theorem dX8_write_56 : decode cX8_write 56 = .ok (.iload_n 2, 1) := by decide +kernel
theorem dX8_write_57 : decode cX8_write 57 = .ok (.iadd, 1) := by decide +kernel
theorem dX8_write_58 : decode cX8_write 58 = .ok (.aload_n 0, 1) := by decide +kernel
theorem dX8_write_59 : decode cX8_write 59 = .ok (.getfield 9, 3) := by decide +kernel
theorem dX8_write_62 : decode cX8_write 62 = .ok (.iload_n 1, 1) := by decide +kernel
theorem dX8_write_63 : decode cX8_write 63 = .ok (.iaload, 1) := by decide +kernel
theorem dX8_write_64 : decode cX8_write 64 = .ok (.lload_n 3, 1) := by decide +kernel
theorem dX8_write_65 : decode cX8_write 65 = .ok (.invokestatic 150, 3) := by decide +kernel
theorem dX8_write_68 : decode cX8_write 68 = .ok (.lastore, 1) := by decide +kernel
theorem dX8_write_69 : decode cX8_write 69 = .ok (.iconst 0, 1) := by decide +kernel
theorem dX8_write_70 : decode cX8_write 70 = .ok (.ireturn, 1) := by decide +kernel
theorem dX8_paste_0 : decode cX8_paste 0 = .ok (.aload_n 0, 1) := by decide +kernel
theorem dX8_paste_1 : decode cX8_paste 1 = .ok (.iconst 0, 1) := by decide +kernel
theorem dX8_paste_2 : decode cX8_paste 2 = .ok (.putfield 137, 3) := by decide +kernel
theorem dX8_paste_5 : decode cX8_paste 5 = .ok (.iload_n 1, 1) := by decide +kernel
theorem dX8_paste_6 : decode cX8_paste 6 = .ok (.invokestatic 146, 3) := by decide +kernel
theorem dX8_paste_9 : decode cX8_paste 9 = .ok (.ifCond .eq 10, 3) := by decide +kernel
theorem dX8_paste_12 : decode cX8_paste 12 = .ok (.iload_n 3, 1) := by decide +kernel
theorem dX8_paste_13 : decode cX8_paste 13 = .ok (.invokestatic 146, 3) := by decide +kernel
theorem dX8_paste_16 : decode cX8_paste 16 = .ok (.ifCond .ne 6, 3) := by decide +kernel
theorem dX8_paste_19 : decode cX8_paste 19 = .ok (.bipush (-2), 2) := by decide +kernel
theorem dX8_paste_21 : decode cX8_paste 21 = .ok (.ireturn, 1) := by decide +kernel
theorem dX8_paste_22 : decode cX8_paste 22 = .ok (.aload_n 0, 1) := by decide +kernel
theorem dX8_paste_23 : decode cX8_paste 23 = .ok (.getfield 9, 3) := by decide +kernel
theorem dX8_paste_26 : decode cX8_paste 26 = .ok (.iload_n 1, 1) := by decide +kernel
theorem dX8_paste_27 : decode cX8_paste 27 = .ok (.iaload, 1) := by decide +kernel
theorem dX8_paste_28 : decode cX8_paste 28 = .ok (.ifCond .lt 12, 3) := by decide +kernel
theorem dX8_paste_31 : decode cX8_paste 31 = .ok (.aload_n 0, 1) := by decide +kernel
theorem dX8_paste_32 : decode cX8_paste 32 = .ok (.getfield 9, 3) := by decide +kernel
theorem dX8_paste_35 : decode cX8_paste 35 = .ok (.iload_n 3, 1) := by decide +kernel
theorem dX8_paste_36 : decode cX8_paste 36 = .ok (.iaload, 1) := by decide +kernel
theorem dX8_paste_37 : decode cX8_paste 37 = .ok (.ifCond .ge 6, 3) := by decide +kernel
theorem dX8_paste_40 : decode cX8_paste 40 = .ok (.bipush (-5), 2) := by decide +kernel
theorem dX8_paste_42 : decode cX8_paste 42 = .ok (.ireturn, 1) := by decide +kernel
theorem dX8_paste_43 : decode cX8_paste 43 = .ok (.aload_n 0, 1) := by decide +kernel
theorem dX8_paste_44 : decode cX8_paste 44 = .ok (.getfield 9, 3) := by decide +kernel
theorem dX8_paste_47 : decode cX8_paste 47 = .ok (.iload_n 1, 1) := by decide +kernel
theorem dX8_paste_48 : decode cX8_paste 48 = .ok (.iaload, 1) := by decide +kernel
theorem dX8_paste_49 : decode cX8_paste 49 = .ok (.aload_n 0, 1) := by decide +kernel
theorem dX8_paste_50 : decode cX8_paste 50 = .ok (.getfield 9, 3) := by decide +kernel
theorem dX8_paste_53 : decode cX8_paste 53 = .ok (.iload_n 3, 1) := by decide +kernel
theorem dX8_paste_54 : decode cX8_paste 54 = .ok (.iaload, 1) := by decide +kernel
theorem dX8_paste_55 : decode cX8_paste 55 = .ok (.if_icmp .eq 6, 3) := by decide +kernel
theorem dX8_paste_58 : decode cX8_paste 58 = .ok (.bipush (-7), 2) := by decide +kernel
theorem dX8_paste_60 : decode cX8_paste 60 = .ok (.ireturn, 1) := by decide +kernel
theorem dX8_paste_61 : decode cX8_paste 61 = .ok (.iload_n 2, 1) := by decide +kernel
theorem dX8_paste_62 : decode cX8_paste 62 = .ok (.ifCond .lt 48, 3) := by decide +kernel
theorem dX8_paste_65 : decode cX8_paste 65 = .ok (.iload 4, 2) := by decide +kernel
theorem dX8_paste_67 : decode cX8_paste 67 = .ok (.ifCond .lt 43, 3) := by decide +kernel
theorem dX8_paste_70 : decode cX8_paste 70 = .ok (.iload 5, 2) := by decide +kernel
theorem dX8_paste_72 : decode cX8_paste 72 = .ok (.ifCond .lt 38, 3) := by decide +kernel
theorem dX8_paste_75 : decode cX8_paste 75 = .ok (.iload_n 2, 1) := by decide +kernel
theorem dX8_paste_76 : decode cX8_paste 76 = .ok (.i2l, 1) := by decide +kernel
theorem dX8_paste_77 : decode cX8_paste 77 = .ok (.iload 5, 2) := by decide +kernel
theorem dX8_paste_79 : decode cX8_paste 79 = .ok (.i2l, 1) := by decide +kernel
theorem dX8_paste_80 : decode cX8_paste 80 = .ok (.ladd, 1) := by decide +kernel
theorem dX8_paste_81 : decode cX8_paste 81 = .ok (.aload_n 0, 1) := by decide +kernel
theorem dX8_paste_82 : decode cX8_paste 82 = .ok (.getfield 13, 3) := by decide +kernel
theorem dX8_paste_85 : decode cX8_paste 85 = .ok (.iload_n 1, 1) := by decide +kernel
theorem dX8_paste_86 : decode cX8_paste 86 = .ok (.iaload, 1) := by decide +kernel
theorem dX8_paste_87 : decode cX8_paste 87 = .ok (.i2l, 1) := by decide +kernel
theorem dX8_paste_88 : decode cX8_paste 88 = .ok (.lcmp, 1) := by decide +kernel
theorem dX8_paste_89 : decode cX8_paste 89 = .ok (.ifCond .gt 21, 3) := by decide +kernel
theorem dX8_paste_92 : decode cX8_paste 92 = .ok (.iload 4, 2) := by decide +kernel
theorem dX8_paste_94 : decode cX8_paste 94 = .ok (.i2l, 1) := by decide +kernel
theorem dX8_paste_95 : decode cX8_paste 95 = .ok (.iload 5, 2) := by decide +kernel
theorem dX8_paste_97 : decode cX8_paste 97 = .ok (.i2l, 1) := by decide +kernel
theorem dX8_paste_98 : decode cX8_paste 98 = .ok (.ladd, 1) := by decide +kernel
theorem dX8_paste_99 : decode cX8_paste 99 = .ok (.aload_n 0, 1) := by decide +kernel
theorem dX8_paste_100 : decode cX8_paste 100 = .ok (.getfield 13, 3) := by decide +kernel
theorem dX8_paste_103 : decode cX8_paste 103 = .ok (.iload_n 3, 1) := by decide +kernel
theorem dX8_paste_104 : decode cX8_paste 104 = .ok (.iaload, 1) := by decide +kernel
theorem dX8_paste_105 : decode cX8_paste 105 = .ok (.i2l, 1) := by decide +kernel
theorem dX8_paste_106 : decode cX8_paste 106 = .ok (.lcmp, 1) := by decide +kernel
theorem dX8_paste_107 : decode cX8_paste 107 = .ok (.ifCond .le 6, 3) := by decide +kernel
theorem dX8_paste_110 : decode cX8_paste 110 = .ok (.bipush (-6), 2) := by decide +kernel
theorem dX8_paste_112 : decode cX8_paste 112 = .ok (.ireturn, 1) := by decide +kernel
theorem dX8_paste_113 : decode cX8_paste 113 = .ok (.iconst 0, 1) := by decide +kernel
theorem dX8_paste_114 : decode cX8_paste 114 = .ok (.istore 6, 2) := by decide +kernel
theorem dX8_paste_116 : decode cX8_paste 116 = .ok (.iload 6, 2) := by decide +kernel
theorem dX8_paste_118 : decode cX8_paste 118 = .ok (.iload 5, 2) := by decide +kernel
theorem dX8_paste_120 : decode cX8_paste 120 = .ok (.if_icmp .ge 30, 3) := by decide +kernel
theorem dX8_paste_123 : decode cX8_paste 123 = .ok (.aload_n 0, 1) := by decide +kernel
theorem dX8_paste_124 : decode cX8_paste 124 = .ok (.getfield 20, 3) := by decide +kernel
theorem dX8_paste_127 : decode cX8_paste 127 = .ok (.iload 6, 2) := by decide +kernel
theorem dX8_paste_129 : decode cX8_paste 129 = .ok (.aload_n 0, 1) := by decide +kernel
theorem dX8_paste_130 : decode cX8_paste 130 = .ok (.getfield 16, 3) := by decide +kernel
theorem dX8_paste_133 : decode cX8_paste 133 = .ok (.bipush 60, 2) := by decide +kernel
theorem dX8_paste_135 : decode cX8_paste 135 = .ok (.iload_n 1, 1) := by decide +kernel
theorem dX8_paste_136 : decode cX8_paste 136 = .ok (.imul, 1) := by decide +kernel
theorem dX8_paste_137 : decode cX8_paste 137 = .ok (.iload_n 2, 1) := by decide +kernel
theorem dX8_paste_138 : decode cX8_paste 138 = .ok (.iadd, 1) := by decide +kernel
theorem dX8_paste_139 : decode cX8_paste 139 = .ok (.iload 6, 2) := by decide +kernel
theorem dX8_paste_141 : decode cX8_paste 141 = .ok (.iadd, 1) := by decide +kernel
theorem dX8_paste_142 : decode cX8_paste 142 = .ok (.laload, 1) := by decide +kernel
theorem dX8_paste_143 : decode cX8_paste 143 = .ok (.lastore, 1) := by decide +kernel
theorem dX8_paste_144 : decode cX8_paste 144 = .ok (.iinc 6 1, 3) := by decide +kernel
theorem dX8_paste_147 : decode cX8_paste 147 = .ok (.goto (-31), 3) := by decide +kernel
theorem dX8_paste_150 : decode cX8_paste 150 = .ok (.iconst 0, 1) := by decide +kernel
theorem dX8_paste_151 : decode cX8_paste 151 = .ok (.istore 6, 2) := by decide +kernel
theorem dX8_paste_153 : decode cX8_paste 153 = .ok (.iload 6, 2) := by decide +kernel
theorem dX8_paste_155 : decode cX8_paste 155 = .ok (.iload 5, 2) := by decide +kernel
theorem dX8_paste_157 : decode cX8_paste 157 = .ok (.if_icmp .ge 31, 3) := by decide +kernel
theorem dX8_paste_160 : decode cX8_paste 160 = .ok (.aload_n 0, 1) := by decide +kernel
theorem dX8_paste_161 : decode cX8_paste 161 = .ok (.getfield 16, 3) := by decide +kernel
theorem dX8_paste_164 : decode cX8_paste 164 = .ok (.bipush 60, 2) := by decide +kernel
theorem dX8_paste_166 : decode cX8_paste 166 = .ok (.iload_n 3, 1) := by decide +kernel
theorem dX8_paste_167 : decode cX8_paste 167 = .ok (.imul, 1) := by decide +kernel
theorem dX8_paste_168 : decode cX8_paste 168 = .ok (.iload 4, 2) := by decide +kernel
theorem dX8_paste_170 : decode cX8_paste 170 = .ok (.iadd, 1) := by decide +kernel
theorem dX8_paste_171 : decode cX8_paste 171 = .ok (.iload 6, 2) := by decide +kernel
theorem dX8_paste_173 : decode cX8_paste 173 = .ok (.iadd, 1) := by decide +kernel
theorem dX8_paste_174 : decode cX8_paste 174 = .ok (.aload_n 0, 1) := by decide +kernel
theorem dX8_paste_175 : decode cX8_paste 175 = .ok (.getfield 20, 3) := by decide +kernel
theorem dX8_paste_178 : decode cX8_paste 178 = .ok (.iload 6, 2) := by decide +kernel
theorem dX8_paste_180 : decode cX8_paste 180 = .ok (.laload, 1) := by decide +kernel
theorem dX8_paste_181 : decode cX8_paste 181 = .ok (.lastore, 1) := by decide +kernel
theorem dX8_paste_182 : decode cX8_paste 182 = .ok (.iinc 6 1, 3) := by decide +kernel
theorem dX8_paste_185 : decode cX8_paste 185 = .ok (.goto (-32), 3) := by decide +kernel
theorem dX8_paste_188 : decode cX8_paste 188 = .ok (.iconst 0, 1) := by decide +kernel
theorem dX8_paste_189 : decode cX8_paste 189 = .ok (.ireturn, 1) := by decide +kernel
theorem dX8_refuses_0 : decode cX8_refuses 0 = .ok (.iload_n 1, 1) := by decide +kernel
theorem dX8_refuses_1 : decode cX8_refuses 1 = .ok (.invokestatic 146, 3) := by decide +kernel
theorem dX8_refuses_4 : decode cX8_refuses 4 = .ok (.ifCond .ne 6, 3) := by decide +kernel
theorem dX8_refuses_7 : decode cX8_refuses 7 = .ok (.bipush (-2), 2) := by decide +kernel
theorem dX8_refuses_9 : decode cX8_refuses 9 = .ok (.ireturn, 1) := by decide +kernel
theorem dX8_refuses_10 : decode cX8_refuses 10 = .ok (.aload_n 0, 1) := by decide +kernel
theorem dX8_refuses_11 : decode cX8_refuses 11 = .ok (.getfield 9, 3) := by decide +kernel
theorem dX8_refuses_14 : decode cX8_refuses 14 = .ok (.iload_n 1, 1) := by decide +kernel
theorem dX8_refuses_15 : decode cX8_refuses 15 = .ok (.iaload, 1) := by decide +kernel
theorem dX8_refuses_16 : decode cX8_refuses 16 = .ok (.ifCond .ge 6, 3) := by decide +kernel
theorem dX8_refuses_19 : decode cX8_refuses 19 = .ok (.bipush (-5), 2) := by decide +kernel
theorem dX8_refuses_21 : decode cX8_refuses 21 = .ok (.ireturn, 1) := by decide +kernel
theorem dX8_refuses_22 : decode cX8_refuses 22 = .ok (.aload_n 0, 1) := by decide +kernel
theorem dX8_refuses_23 : decode cX8_refuses 23 = .ok (.getfield 13, 3) := by decide +kernel
theorem dX8_refuses_26 : decode cX8_refuses 26 = .ok (.iload_n 1, 1) := by decide +kernel
theorem dX8_refuses_27 : decode cX8_refuses 27 = .ok (.iaload, 1) := by decide +kernel
theorem dX8_refuses_28 : decode cX8_refuses 28 = .ok (.aload_n 0, 1) := by decide +kernel
theorem dX8_refuses_29 : decode cX8_refuses 29 = .ok (.getfield 154, 3) := by decide +kernel
theorem dX8_refuses_32 : decode cX8_refuses 32 = .ok (.if_icmp .ge 6, 3) := by decide +kernel
theorem dX8_refuses_35 : decode cX8_refuses 35 = .ok (.bipush (-6), 2) := by decide +kernel
theorem dX8_refuses_37 : decode cX8_refuses 37 = .ok (.ireturn, 1) := by decide +kernel
theorem dX8_refuses_38 : decode cX8_refuses 38 = .ok (.iconst 0, 1) := by decide +kernel
theorem dX8_refuses_39 : decode cX8_refuses 39 = .ok (.istore 4, 2) := by decide +kernel
theorem dX8_refuses_41 : decode cX8_refuses 41 = .ok (.iload 4, 2) := by decide +kernel
theorem dX8_refuses_43 : decode cX8_refuses 43 = .ok (.aload_n 0, 1) := by decide +kernel
theorem dX8_refuses_44 : decode cX8_refuses 44 = .ok (.getfield 154, 3) := by decide +kernel
theorem dX8_refuses_47 : decode cX8_refuses 47 = .ok (.if_icmp .ge 32, 3) := by decide +kernel
theorem dX8_refuses_50 : decode cX8_refuses 50 = .ok (.aload_n 0, 1) := by decide +kernel
theorem dX8_refuses_51 : decode cX8_refuses 51 = .ok (.getfield 16, 3) := by decide +kernel
theorem dX8_refuses_54 : decode cX8_refuses 54 = .ok (.bipush 60, 2) := by decide +kernel
theorem dX8_refuses_56 : decode cX8_refuses 56 = .ok (.iload_n 1, 1) := by decide +kernel
theorem dX8_refuses_57 : decode cX8_refuses 57 = .ok (.imul, 1) := by decide +kernel
theorem dX8_refuses_58 : decode cX8_refuses 58 = .ok (.iload 4, 2) := by decide +kernel
theorem dX8_refuses_60 : decode cX8_refuses 60 = .ok (.iadd, 1) := by decide +kernel
theorem dX8_refuses_61 : decode cX8_refuses 61 = .ok (.laload, 1) := by decide +kernel
theorem dX8_refuses_62 : decode cX8_refuses 62 = .ok (.lconst 0, 1) := by decide +kernel
theorem dX8_refuses_63 : decode cX8_refuses 63 = .ok (.lload_n 2, 1) := by decide +kernel
theorem dX8_refuses_64 : decode cX8_refuses 64 = .ok (.invokestatic 142, 3) := by decide +kernel
theorem dX8_refuses_67 : decode cX8_refuses 67 = .ok (.ifCond .ne 6, 3) := by decide +kernel
theorem dX8_refuses_70 : decode cX8_refuses 70 = .ok (.bipush (-4), 2) := by decide +kernel
theorem dX8_refuses_72 : decode cX8_refuses 72 = .ok (.ireturn, 1) := by decide +kernel
theorem dX8_refuses_73 : decode cX8_refuses 73 = .ok (.iinc 4 1, 3) := by decide +kernel
theorem dX8_refuses_76 : decode cX8_refuses 76 = .ok (.goto (-35), 3) := by decide +kernel
theorem dX8_refuses_79 : decode cX8_refuses 79 = .ok (.iconst 0, 1) := by decide +kernel
theorem dX8_refuses_80 : decode cX8_refuses 80 = .ok (.ireturn, 1) := by decide +kernel
theorem dX8_terms_0 : decode cX8_terms 0 = .ok (.aload_n 0, 1) := by decide +kernel
theorem dX8_terms_1 : decode cX8_terms 1 = .ok (.iconst 0, 1) := by decide +kernel
theorem dX8_terms_2 : decode cX8_terms 2 = .ok (.putfield 137, 3) := by decide +kernel
theorem dX8_terms_5 : decode cX8_terms 5 = .ok (.iload_n 1, 1) := by decide +kernel
theorem dX8_terms_6 : decode cX8_terms 6 = .ok (.i2l, 1) := by decide +kernel
theorem dX8_terms_7 : decode cX8_terms 7 = .ok (.lconst 1, 1) := by decide +kernel
theorem dX8_terms_8 : decode cX8_terms 8 = .ok (.ldc2_w 157, 3) := by decide +kernel
theorem dX8_terms_11 : decode cX8_terms 11 = .ok (.invokestatic 142, 3) := by decide +kernel
theorem dX8_terms_14 : decode cX8_terms 14 = .ok (.ifCond .eq 40, 3) := by decide +kernel
theorem dX8_terms_17 : decode cX8_terms 17 = .ok (.iload_n 2, 1) := by decide +kernel
theorem dX8_terms_18 : decode cX8_terms 18 = .ok (.i2l, 1) := by decide +kernel
theorem dX8_terms_19 : decode cX8_terms 19 = .ok (.lconst 1, 1) := by decide +kernel
theorem dX8_terms_20 : decode cX8_terms 20 = .ok (.ldc2_w 159, 3) := by decide +kernel
theorem dX8_terms_23 : decode cX8_terms 23 = .ok (.invokestatic 142, 3) := by decide +kernel
theorem dX8_terms_26 : decode cX8_terms 26 = .ok (.ifCond .eq 28, 3) := by decide +kernel
theorem dX8_terms_29 : decode cX8_terms 29 = .ok (.iload_n 3, 1) := by decide +kernel
theorem dX8_terms_30 : decode cX8_terms 30 = .ok (.i2l, 1) := by decide +kernel
theorem dX8_terms_31 : decode cX8_terms 31 = .ok (.lconst 1, 1) := by decide +kernel
theorem dX8_terms_32 : decode cX8_terms 32 = .ok (.ldc2_w 161, 3) := by decide +kernel
theorem dX8_terms_35 : decode cX8_terms 35 = .ok (.invokestatic 142, 3) := by decide +kernel
theorem dX8_terms_38 : decode cX8_terms 38 = .ok (.ifCond .eq 16, 3) := by decide +kernel
theorem dX8_terms_41 : decode cX8_terms 41 = .ok (.iload 4, 2) := by decide +kernel
theorem dX8_terms_43 : decode cX8_terms 43 = .ok (.i2l, 1) := by decide +kernel
theorem dX8_terms_44 : decode cX8_terms 44 = .ok (.lconst 0, 1) := by decide +kernel
theorem dX8_terms_45 : decode cX8_terms 45 = .ok (.ldc2_w 163, 3) := by decide +kernel
theorem dX8_terms_48 : decode cX8_terms 48 = .ok (.invokestatic 142, 3) := by decide +kernel
theorem dX8_terms_51 : decode cX8_terms 51 = .ok (.ifCond .ne 6, 3) := by decide +kernel
theorem dX8_terms_54 : decode cX8_terms 54 = .ok (.bipush (-2), 2) := by decide +kernel
theorem dX8_terms_56 : decode cX8_terms 56 = .ok (.ireturn, 1) := by decide +kernel
theorem dX8_terms_57 : decode cX8_terms 57 = .ok (.aload_n 0, 1) := by decide +kernel
theorem dX8_terms_58 : decode cX8_terms 58 = .ok (.iload_n 1, 1) := by decide +kernel
theorem dX8_terms_59 : decode cX8_terms 59 = .ok (.putfield 23, 3) := by decide +kernel
theorem dX8_terms_62 : decode cX8_terms 62 = .ok (.aload_n 0, 1) := by decide +kernel
theorem dX8_terms_63 : decode cX8_terms 63 = .ok (.iload_n 2, 1) := by decide +kernel
