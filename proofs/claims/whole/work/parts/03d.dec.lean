theorem dX8_terms_64 : decode cX8_terms 64 = .ok (.putfield 27, 3) := by decide +kernel
theorem dX8_terms_67 : decode cX8_terms 67 = .ok (.aload_n 0, 1) := by decide +kernel
theorem dX8_terms_68 : decode cX8_terms 68 = .ok (.iload_n 3, 1) := by decide +kernel
theorem dX8_terms_69 : decode cX8_terms 69 = .ok (.putfield 30, 3) := by decide +kernel
theorem dX8_terms_72 : decode cX8_terms 72 = .ok (.aload_n 0, 1) := by decide +kernel
theorem dX8_terms_73 : decode cX8_terms 73 = .ok (.iload 4, 2) := by decide +kernel
theorem dX8_terms_75 : decode cX8_terms 75 = .ok (.putfield 33, 3) := by decide +kernel
theorem dX8_terms_78 : decode cX8_terms 78 = .ok (.iconst 0, 1) := by decide +kernel
theorem dX8_terms_79 : decode cX8_terms 79 = .ok (.ireturn, 1) := by decide +kernel
theorem dX8_cell_0 : decode cX8_cell 0 = .ok (.aload_n 0, 1) := by decide +kernel
theorem dX8_cell_1 : decode cX8_cell 1 = .ok (.iconst 0, 1) := by decide +kernel
theorem dX8_cell_2 : decode cX8_cell 2 = .ok (.putfield 137, 3) := by decide +kernel
theorem dX8_cell_5 : decode cX8_cell 5 = .ok (.iload_n 1, 1) := by decide +kernel
theorem dX8_cell_6 : decode cX8_cell 6 = .ok (.i2l, 1) := by decide +kernel
theorem dX8_cell_7 : decode cX8_cell 7 = .ok (.lconst 1, 1) := by decide +kernel
theorem dX8_cell_8 : decode cX8_cell 8 = .ok (.ldc2_w 165, 3) := by decide +kernel
theorem dX8_cell_11 : decode cX8_cell 11 = .ok (.invokestatic 142, 3) := by decide +kernel
theorem dX8_cell_14 : decode cX8_cell 14 = .ok (.ifCond .eq 40, 3) := by decide +kernel
theorem dX8_cell_17 : decode cX8_cell 17 = .ok (.iload_n 2, 1) := by decide +kernel
theorem dX8_cell_18 : decode cX8_cell 18 = .ok (.i2l, 1) := by decide +kernel
theorem dX8_cell_19 : decode cX8_cell 19 = .ok (.lconst 1, 1) := by decide +kernel
theorem dX8_cell_20 : decode cX8_cell 20 = .ok (.ldc2_w 159, 3) := by decide +kernel
theorem dX8_cell_23 : decode cX8_cell 23 = .ok (.invokestatic 142, 3) := by decide +kernel
theorem dX8_cell_26 : decode cX8_cell 26 = .ok (.ifCond .eq 28, 3) := by decide +kernel
theorem dX8_cell_29 : decode cX8_cell 29 = .ok (.iload_n 3, 1) := by decide +kernel
theorem dX8_cell_30 : decode cX8_cell 30 = .ok (.i2l, 1) := by decide +kernel
theorem dX8_cell_31 : decode cX8_cell 31 = .ok (.lconst 1, 1) := by decide +kernel
theorem dX8_cell_32 : decode cX8_cell 32 = .ok (.ldc2_w 163, 3) := by decide +kernel
theorem dX8_cell_35 : decode cX8_cell 35 = .ok (.invokestatic 142, 3) := by decide +kernel
theorem dX8_cell_38 : decode cX8_cell 38 = .ok (.ifCond .eq 16, 3) := by decide +kernel
theorem dX8_cell_41 : decode cX8_cell 41 = .ok (.iload 4, 2) := by decide +kernel
theorem dX8_cell_43 : decode cX8_cell 43 = .ok (.i2l, 1) := by decide +kernel
theorem dX8_cell_44 : decode cX8_cell 44 = .ok (.lconst 0, 1) := by decide +kernel
theorem dX8_cell_45 : decode cX8_cell 45 = .ok (.ldc2_w 167, 3) := by decide +kernel
theorem dX8_cell_48 : decode cX8_cell 48 = .ok (.invokestatic 142, 3) := by decide +kernel
theorem dX8_cell_51 : decode cX8_cell 51 = .ok (.ifCond .ne 6, 3) := by decide +kernel
theorem dX8_cell_54 : decode cX8_cell 54 = .ok (.bipush (-2), 2) := by decide +kernel
theorem dX8_cell_56 : decode cX8_cell 56 = .ok (.ireturn, 1) := by decide +kernel
theorem dX8_cell_57 : decode cX8_cell 57 = .ok (.aload_n 0, 1) := by decide +kernel
theorem dX8_cell_58 : decode cX8_cell 58 = .ok (.getfield 154, 3) := by decide +kernel
theorem dX8_cell_61 : decode cX8_cell 61 = .ok (.bipush 10, 2) := by decide +kernel
theorem dX8_cell_63 : decode cX8_cell 63 = .ok (.if_icmp .ne 6, 3) := by decide +kernel
theorem dX8_cell_66 : decode cX8_cell 66 = .ok (.bipush (-3), 2) := by decide +kernel
theorem dX8_cell_68 : decode cX8_cell 68 = .ok (.ireturn, 1) := by decide +kernel
theorem dX8_cell_69 : decode cX8_cell 69 = .ok (.aload_n 0, 1) := by decide +kernel
theorem dX8_cell_70 : decode cX8_cell 70 = .ok (.getfield 39, 3) := by decide +kernel
theorem dX8_cell_73 : decode cX8_cell 73 = .ok (.aload_n 0, 1) := by decide +kernel
theorem dX8_cell_74 : decode cX8_cell 74 = .ok (.getfield 154, 3) := by decide +kernel
theorem dX8_cell_77 : decode cX8_cell 77 = .ok (.iload_n 1, 1) := by decide +kernel
theorem dX8_cell_78 : decode cX8_cell 78 = .ok (.iastore, 1) := by decide +kernel
theorem dX8_cell_79 : decode cX8_cell 79 = .ok (.aload_n 0, 1) := by decide +kernel
theorem dX8_cell_80 : decode cX8_cell 80 = .ok (.getfield 42, 3) := by decide +kernel
theorem dX8_cell_83 : decode cX8_cell 83 = .ok (.aload_n 0, 1) := by decide +kernel
theorem dX8_cell_84 : decode cX8_cell 84 = .ok (.getfield 154, 3) := by decide +kernel
theorem dX8_cell_87 : decode cX8_cell 87 = .ok (.iload_n 2, 1) := by decide +kernel
theorem dX8_cell_88 : decode cX8_cell 88 = .ok (.iastore, 1) := by decide +kernel
theorem dX8_cell_89 : decode cX8_cell 89 = .ok (.aload_n 0, 1) := by decide +kernel
theorem dX8_cell_90 : decode cX8_cell 90 = .ok (.getfield 45, 3) := by decide +kernel
theorem dX8_cell_93 : decode cX8_cell 93 = .ok (.aload_n 0, 1) := by decide +kernel
theorem dX8_cell_94 : decode cX8_cell 94 = .ok (.getfield 154, 3) := by decide +kernel
theorem dX8_cell_97 : decode cX8_cell 97 = .ok (.iload_n 3, 1) := by decide +kernel
theorem dX8_cell_98 : decode cX8_cell 98 = .ok (.iastore, 1) := by decide +kernel
theorem dX8_cell_99 : decode cX8_cell 99 = .ok (.aload_n 0, 1) := by decide +kernel
theorem dX8_cell_100 : decode cX8_cell 100 = .ok (.getfield 48, 3) := by decide +kernel
theorem dX8_cell_103 : decode cX8_cell 103 = .ok (.aload_n 0, 1) := by decide +kernel
theorem dX8_cell_104 : decode cX8_cell 104 = .ok (.getfield 154, 3) := by decide +kernel
theorem dX8_cell_107 : decode cX8_cell 107 = .ok (.iload 4, 2) := by decide +kernel
theorem dX8_cell_109 : decode cX8_cell 109 = .ok (.iastore, 1) := by decide +kernel
theorem dX8_cell_110 : decode cX8_cell 110 = .ok (.aload_n 0, 1) := by decide +kernel
theorem dX8_cell_111 : decode cX8_cell 111 = .ok (.dup, 1) := by decide +kernel
theorem dX8_cell_112 : decode cX8_cell 112 = .ok (.getfield 154, 3) := by decide +kernel
theorem dX8_cell_115 : decode cX8_cell 115 = .ok (.iconst 1, 1) := by decide +kernel
theorem dX8_cell_116 : decode cX8_cell 116 = .ok (.iadd, 1) := by decide +kernel
theorem dX8_cell_117 : decode cX8_cell 117 = .ok (.putfield 154, 3) := by decide +kernel
theorem dX8_cell_120 : decode cX8_cell 120 = .ok (.aload_n 0, 1) := by decide +kernel
theorem dX8_cell_121 : decode cX8_cell 121 = .ok (.getfield 154, 3) := by decide +kernel
theorem dX8_cell_124 : decode cX8_cell 124 = .ok (.iconst 1, 1) := by decide +kernel
theorem dX8_cell_125 : decode cX8_cell 125 = .ok (.isub, 1) := by decide +kernel
theorem dX8_cell_126 : decode cX8_cell 126 = .ok (.ireturn, 1) := by decide +kernel
theorem dX8_isCell_0 : decode cX8_isCell 0 = .ok (.iload_n 1, 1) := by decide +kernel
theorem dX8_isCell_1 : decode cX8_isCell 1 = .ok (.i2l, 1) := by decide +kernel
theorem dX8_isCell_2 : decode cX8_isCell 2 = .ok (.lconst 0, 1) := by decide +kernel
theorem dX8_isCell_3 : decode cX8_isCell 3 = .ok (.aload_n 0, 1) := by decide +kernel
theorem dX8_isCell_4 : decode cX8_isCell 4 = .ok (.getfield 154, 3) := by decide +kernel
theorem dX8_isCell_7 : decode cX8_isCell 7 = .ok (.iconst 1, 1) := by decide +kernel
theorem dX8_isCell_8 : decode cX8_isCell 8 = .ok (.isub, 1) := by decide +kernel
theorem dX8_isCell_9 : decode cX8_isCell 9 = .ok (.i2l, 1) := by decide +kernel
theorem dX8_isCell_10 : decode cX8_isCell 10 = .ok (.invokestatic 142, 3) := by decide +kernel
theorem dX8_isCell_13 : decode cX8_isCell 13 = .ok (.ireturn, 1) := by decide +kernel
theorem dX8_isGate_0 : decode cX8_isGate 0 = .ok (.iload_n 0, 1) := by decide +kernel
theorem dX8_isGate_1 : decode cX8_isGate 1 = .ok (.i2l, 1) := by decide +kernel
theorem dX8_isGate_2 : decode cX8_isGate 2 = .ok (.lconst 0, 1) := by decide +kernel
theorem dX8_isGate_3 : decode cX8_isGate 3 = .ok (.ldc2_w 167, 3) := by decide +kernel
theorem dX8_isGate_6 : decode cX8_isGate 6 = .ok (.invokestatic 142, 3) := by decide +kernel
theorem dX8_isGate_9 : decode cX8_isGate 9 = .ok (.ireturn, 1) := by decide +kernel
theorem dX8_isSet_0 : decode cX8_isSet 0 = .ok (.lload_n 1, 1) := by decide +kernel
theorem dX8_isSet_1 : decode cX8_isSet 1 = .ok (.lconst 0, 1) := by decide +kernel
theorem dX8_isSet_2 : decode cX8_isSet 2 = .ok (.lconst 1, 1) := by decide +kernel
theorem dX8_isSet_3 : decode cX8_isSet 3 = .ok (.aload_n 0, 1) := by decide +kernel
theorem dX8_isSet_4 : decode cX8_isSet 4 = .ok (.getfield 154, 3) := by decide +kernel
theorem dX8_isSet_7 : decode cX8_isSet 7 = .ok (.lshl, 1) := by decide +kernel
theorem dX8_isSet_8 : decode cX8_isSet 8 = .ok (.lconst 1, 1) := by decide +kernel
theorem dX8_isSet_9 : decode cX8_isSet 9 = .ok (.lsub, 1) := by decide +kernel
theorem dX8_isSet_10 : decode cX8_isSet 10 = .ok (.invokestatic 142, 3) := by decide +kernel
theorem dX8_isSet_13 : decode cX8_isSet 13 = .ok (.ireturn, 1) := by decide +kernel
theorem dX8_forbid_0 : decode cX8_forbid 0 = .ok (.aload_n 0, 1) := by decide +kernel
theorem dX8_forbid_1 : decode cX8_forbid 1 = .ok (.iconst 0, 1) := by decide +kernel
theorem dX8_forbid_2 : decode cX8_forbid 2 = .ok (.putfield 137, 3) := by decide +kernel
theorem dX8_forbid_5 : decode cX8_forbid 5 = .ok (.aload_n 0, 1) := by decide +kernel
theorem dX8_forbid_6 : decode cX8_forbid 6 = .ok (.iload_n 1, 1) := by decide +kernel
theorem dX8_forbid_7 : decode cX8_forbid 7 = .ok (.invokevirtual 169, 3) := by decide +kernel
theorem dX8_forbid_10 : decode cX8_forbid 10 = .ok (.ifCond .eq 38, 3) := by decide +kernel
theorem dX8_forbid_13 : decode cX8_forbid 13 = .ok (.aload_n 0, 1) := by decide +kernel
theorem dX8_forbid_14 : decode cX8_forbid 14 = .ok (.iload_n 2, 1) := by decide +kernel
theorem dX8_forbid_15 : decode cX8_forbid 15 = .ok (.invokevirtual 169, 3) := by decide +kernel
theorem dX8_forbid_18 : decode cX8_forbid 18 = .ok (.ifCond .eq 30, 3) := by decide +kernel
theorem dX8_forbid_21 : decode cX8_forbid 21 = .ok (.iload_n 1, 1) := by decide +kernel
theorem dX8_forbid_22 : decode cX8_forbid 22 = .ok (.iload_n 2, 1) := by decide +kernel
theorem dX8_forbid_23 : decode cX8_forbid 23 = .ok (.if_icmp .eq 25, 3) := by decide +kernel
theorem dX8_forbid_26 : decode cX8_forbid 26 = .ok (.aload_n 0, 1) := by decide +kernel
theorem dX8_forbid_27 : decode cX8_forbid 27 = .ok (.getfield 63, 3) := by decide +kernel
theorem dX8_forbid_30 : decode cX8_forbid 30 = .ok (.iload_n 1, 1) := by decide +kernel
theorem dX8_forbid_31 : decode cX8_forbid 31 = .ok (.iaload, 1) := by decide +kernel
theorem dX8_forbid_32 : decode cX8_forbid 32 = .ok (.iload_n 2, 1) := by decide +kernel
theorem dX8_forbid_33 : decode cX8_forbid 33 = .ok (.ishr, 1) := by decide +kernel
theorem dX8_forbid_34 : decode cX8_forbid 34 = .ok (.iconst 1, 1) := by decide +kernel
theorem dX8_forbid_35 : decode cX8_forbid 35 = .ok (.iand, 1) := by decide +kernel
theorem dX8_forbid_36 : decode cX8_forbid 36 = .ok (.iload_n 3, 1) := by decide +kernel
theorem dX8_forbid_37 : decode cX8_forbid 37 = .ok (.ifCond .eq 7, 3) := by decide +kernel
theorem dX8_forbid_40 : decode cX8_forbid 40 = .ok (.iconst 1, 1) := by decide +kernel
theorem dX8_forbid_41 : decode cX8_forbid 41 = .ok (.goto 4, 3) := by decide +kernel
theorem dX8_forbid_44 : decode cX8_forbid 44 = .ok (.iconst 0, 1) := by decide +kernel
theorem dX8_forbid_45 : decode cX8_forbid 45 = .ok (.if_icmp .ne 5, 3) := by decide +kernel
theorem dX8_forbid_48 : decode cX8_forbid 48 = .ok (.iconst 0, 1) := by decide +kernel
theorem dX8_forbid_49 : decode cX8_forbid 49 = .ok (.ireturn, 1) := by decide +kernel
theorem dX8_forbid_50 : decode cX8_forbid 50 = .ok (.aload_n 0, 1) := by decide +kernel
theorem dX8_forbid_51 : decode cX8_forbid 51 = .ok (.getfield 63, 3) := by decide +kernel
theorem dX8_forbid_54 : decode cX8_forbid 54 = .ok (.iload_n 1, 1) := by decide +kernel
theorem dX8_forbid_55 : decode cX8_forbid 55 = .ok (.dup2, 1) := by decide +kernel
theorem dX8_forbid_56 : decode cX8_forbid 56 = .ok (.iaload, 1) := by decide +kernel
theorem dX8_forbid_57 : decode cX8_forbid 57 = .ok (.iconst 1, 1) := by decide +kernel
theorem dX8_forbid_58 : decode cX8_forbid 58 = .ok (.iload_n 2, 1) := by decide +kernel
theorem dX8_forbid_59 : decode cX8_forbid 59 = .ok (.ishl, 1) := by decide +kernel
theorem dX8_forbid_60 : decode cX8_forbid 60 = .ok (.ixor, 1) := by decide +kernel
theorem dX8_forbid_61 : decode cX8_forbid 61 = .ok (.iastore, 1) := by decide +kernel
theorem dX8_forbid_62 : decode cX8_forbid 62 = .ok (.aload_n 0, 1) := by decide +kernel
theorem dX8_forbid_63 : decode cX8_forbid 63 = .ok (.getfield 63, 3) := by decide +kernel
theorem dX8_forbid_66 : decode cX8_forbid 66 = .ok (.iload_n 2, 1) := by decide +kernel
theorem dX8_forbid_67 : decode cX8_forbid 67 = .ok (.dup2, 1) := by decide +kernel
theorem dX8_forbid_68 : decode cX8_forbid 68 = .ok (.iaload, 1) := by decide +kernel
theorem dX8_forbid_69 : decode cX8_forbid 69 = .ok (.iconst 1, 1) := by decide +kernel
theorem dX8_forbid_70 : decode cX8_forbid 70 = .ok (.iload_n 1, 1) := by decide +kernel
theorem dX8_forbid_71 : decode cX8_forbid 71 = .ok (.ishl, 1) := by decide +kernel
theorem dX8_forbid_72 : decode cX8_forbid 72 = .ok (.ixor, 1) := by decide +kernel
theorem dX8_forbid_73 : decode cX8_forbid 73 = .ok (.iastore, 1) := by decide +kernel
theorem dX8_forbid_74 : decode cX8_forbid 74 = .ok (.iconst 1, 1) := by decide +kernel
theorem dX8_forbid_75 : decode cX8_forbid 75 = .ok (.ireturn, 1) := by decide +kernel
theorem dX8_rain_0 : decode cX8_rain 0 = .ok (.aload_n 0, 1) := by decide +kernel
theorem dX8_rain_1 : decode cX8_rain 1 = .ok (.iconst 0, 1) := by decide +kernel
theorem dX8_rain_2 : decode cX8_rain 2 = .ok (.putfield 137, 3) := by decide +kernel
theorem dX8_rain_5 : decode cX8_rain 5 = .ok (.aload_n 0, 1) := by decide +kernel
theorem dX8_rain_6 : decode cX8_rain 6 = .ok (.iload_n 1, 1) := by decide +kernel
theorem dX8_rain_7 : decode cX8_rain 7 = .ok (.invokevirtual 169, 3) := by decide +kernel
theorem dX8_rain_10 : decode cX8_rain 10 = .ok (.ifCond .eq 15, 3) := by decide +kernel
theorem dX8_rain_13 : decode cX8_rain 13 = .ok (.iload_n 2, 1) := by decide +kernel
theorem dX8_rain_14 : decode cX8_rain 14 = .ok (.i2l, 1) := by decide +kernel
theorem dX8_rain_15 : decode cX8_rain 15 = .ok (.lconst 0, 1) := by decide +kernel
theorem dX8_rain_16 : decode cX8_rain 16 = .ok (.ldc2_w 167, 3) := by decide +kernel
theorem dX8_rain_19 : decode cX8_rain 19 = .ok (.invokestatic 142, 3) := by decide +kernel
theorem dX8_rain_22 : decode cX8_rain 22 = .ok (.ifCond .ne 6, 3) := by decide +kernel
theorem dX8_rain_25 : decode cX8_rain 25 = .ok (.bipush (-2), 2) := by decide +kernel
theorem dX8_rain_27 : decode cX8_rain 27 = .ok (.ireturn, 1) := by decide +kernel
theorem dX8_rain_28 : decode cX8_rain 28 = .ok (.aload_n 0, 1) := by decide +kernel
theorem dX8_rain_29 : decode cX8_rain 29 = .ok (.getfield 60, 3) := by decide +kernel
theorem dX8_rain_32 : decode cX8_rain 32 = .ok (.iload_n 1, 1) := by decide +kernel
theorem dX8_rain_33 : decode cX8_rain 33 = .ok (.iaload, 1) := by decide +kernel
theorem dX8_rain_34 : decode cX8_rain 34 = .ok (.istore_n 3, 1) := by decide +kernel
theorem dX8_rain_35 : decode cX8_rain 35 = .ok (.aload_n 0, 1) := by decide +kernel
theorem dX8_rain_36 : decode cX8_rain 36 = .ok (.getfield 60, 3) := by decide +kernel
theorem dX8_rain_39 : decode cX8_rain 39 = .ok (.iload_n 1, 1) := by decide +kernel
theorem dX8_rain_40 : decode cX8_rain 40 = .ok (.iload_n 2, 1) := by decide +kernel
theorem dX8_rain_41 : decode cX8_rain 41 = .ok (.iastore, 1) := by decide +kernel
theorem dX8_rain_42 : decode cX8_rain 42 = .ok (.iload_n 3, 1) := by decide +kernel
theorem dX8_rain_43 : decode cX8_rain 43 = .ok (.ireturn, 1) := by decide +kernel
theorem dX8_gateway_0 : decode cX8_gateway 0 = .ok (.aload_n 0, 1) := by decide +kernel
theorem dX8_gateway_1 : decode cX8_gateway 1 = .ok (.iconst 0, 1) := by decide +kernel
theorem dX8_gateway_2 : decode cX8_gateway 2 = .ok (.putfield 137, 3) := by decide +kernel
theorem dX8_gateway_5 : decode cX8_gateway 5 = .ok (.iload_n 1, 1) := by decide +kernel
theorem dX8_gateway_6 : decode cX8_gateway 6 = .ok (.invokestatic 172, 3) := by decide +kernel
theorem dX8_gateway_9 : decode cX8_gateway 9 = .ok (.ifCond .eq 15, 3) := by decide +kernel
theorem dX8_gateway_12 : decode cX8_gateway 12 = .ok (.iload_n 2, 1) := by decide +kernel
theorem dX8_gateway_13 : decode cX8_gateway 13 = .ok (.i2l, 1) := by decide +kernel
theorem dX8_gateway_14 : decode cX8_gateway 14 = .ok (.lconst 0, 1) := by decide +kernel
theorem dX8_gateway_15 : decode cX8_gateway 15 = .ok (.ldc2_w 175, 3) := by decide +kernel
theorem dX8_gateway_18 : decode cX8_gateway 18 = .ok (.invokestatic 142, 3) := by decide +kernel
theorem dX8_gateway_21 : decode cX8_gateway 21 = .ok (.ifCond .ne 6, 3) := by decide +kernel
theorem dX8_gateway_24 : decode cX8_gateway 24 = .ok (.bipush (-2), 2) := by decide +kernel
theorem dX8_gateway_26 : decode cX8_gateway 26 = .ok (.ireturn, 1) := by decide +kernel
theorem dX8_gateway_27 : decode cX8_gateway 27 = .ok (.aload_n 0, 1) := by decide +kernel
theorem dX8_gateway_28 : decode cX8_gateway 28 = .ok (.getfield 75, 3) := by decide +kernel
theorem dX8_gateway_31 : decode cX8_gateway 31 = .ok (.iload_n 1, 1) := by decide +kernel
theorem dX8_gateway_32 : decode cX8_gateway 32 = .ok (.iload_n 2, 1) := by decide +kernel
theorem dX8_gateway_33 : decode cX8_gateway 33 = .ok (.iastore, 1) := by decide +kernel
theorem dX8_gateway_34 : decode cX8_gateway 34 = .ok (.aload_n 0, 1) := by decide +kernel
theorem dX8_gateway_35 : decode cX8_gateway 35 = .ok (.getfield 78, 3) := by decide +kernel
theorem dX8_gateway_38 : decode cX8_gateway 38 = .ok (.iload_n 1, 1) := by decide +kernel
theorem dX8_gateway_39 : decode cX8_gateway 39 = .ok (.iload_n 3, 1) := by decide +kernel
theorem dX8_gateway_40 : decode cX8_gateway 40 = .ok (.bastore, 1) := by decide +kernel
theorem dX8_gateway_41 : decode cX8_gateway 41 = .ok (.iconst 0, 1) := by decide +kernel
theorem dX8_gateway_42 : decode cX8_gateway 42 = .ok (.ireturn, 1) := by decide +kernel
theorem dX8_swap_0 : decode cX8_swap 0 = .ok (.aload_n 0, 1) := by decide +kernel
theorem dX8_swap_1 : decode cX8_swap 1 = .ok (.iconst 0, 1) := by decide +kernel
theorem dX8_swap_2 : decode cX8_swap 2 = .ok (.putfield 137, 3) := by decide +kernel
theorem dX8_swap_5 : decode cX8_swap 5 = .ok (.aload_n 0, 1) := by decide +kernel
theorem dX8_swap_6 : decode cX8_swap 6 = .ok (.iload_n 1, 1) := by decide +kernel
theorem dX8_swap_7 : decode cX8_swap 7 = .ok (.invokevirtual 169, 3) := by decide +kernel
theorem dX8_swap_10 : decode cX8_swap 10 = .ok (.ifCond .eq 20, 3) := by decide +kernel
theorem dX8_swap_13 : decode cX8_swap 13 = .ok (.iload_n 2, 1) := by decide +kernel
theorem dX8_swap_14 : decode cX8_swap 14 = .ok (.invokestatic 172, 3) := by decide +kernel
theorem dX8_swap_17 : decode cX8_swap 17 = .ok (.ifCond .eq 13, 3) := by decide +kernel
theorem dX8_swap_20 : decode cX8_swap 20 = .ok (.aload_n 0, 1) := by decide +kernel
theorem dX8_swap_21 : decode cX8_swap 21 = .ok (.getfield 48, 3) := by decide +kernel
theorem dX8_swap_24 : decode cX8_swap 24 = .ok (.iload_n 1, 1) := by decide +kernel
theorem dX8_swap_25 : decode cX8_swap 25 = .ok (.iaload, 1) := by decide +kernel
theorem dX8_swap_26 : decode cX8_swap 26 = .ok (.iload_n 2, 1) := by decide +kernel
theorem dX8_swap_27 : decode cX8_swap 27 = .ok (.if_icmp .ne 6, 3) := by decide +kernel
theorem dX8_swap_30 : decode cX8_swap 30 = .ok (.bipush (-2), 2) := by decide +kernel
theorem dX8_swap_32 : decode cX8_swap 32 = .ok (.ireturn, 1) := by decide +kernel
theorem dX8_swap_33 : decode cX8_swap 33 = .ok (.aload_n 0, 1) := by decide +kernel
theorem dX8_swap_34 : decode cX8_swap 34 = .ok (.getfield 51, 3) := by decide +kernel
theorem dX8_swap_37 : decode cX8_swap 37 = .ok (.iload_n 1, 1) := by decide +kernel
theorem dX8_swap_38 : decode cX8_swap 38 = .ok (.iaload, 1) := by decide +kernel
theorem dX8_swap_39 : decode cX8_swap 39 = .ok (.ifCond .le 6, 3) := by decide +kernel
theorem dX8_swap_42 : decode cX8_swap 42 = .ok (.bipush (-7), 2) := by decide +kernel
theorem dX8_swap_44 : decode cX8_swap 44 = .ok (.ireturn, 1) := by decide +kernel
theorem dX8_swap_45 : decode cX8_swap 45 = .ok (.aload_n 0, 1) := by decide +kernel
theorem dX8_swap_46 : decode cX8_swap 46 = .ok (.getfield 48, 3) := by decide +kernel
theorem dX8_swap_49 : decode cX8_swap 49 = .ok (.iload_n 1, 1) := by decide +kernel
theorem dX8_swap_50 : decode cX8_swap 50 = .ok (.iload_n 2, 1) := by decide +kernel
theorem dX8_swap_51 : decode cX8_swap 51 = .ok (.iastore, 1) := by decide +kernel
theorem dX8_swap_52 : decode cX8_swap 52 = .ok (.aload_n 0, 1) := by decide +kernel
theorem dX8_swap_53 : decode cX8_swap 53 = .ok (.getfield 51, 3) := by decide +kernel
theorem dX8_swap_56 : decode cX8_swap 56 = .ok (.iload_n 1, 1) := by decide +kernel
theorem dX8_swap_57 : decode cX8_swap 57 = .ok (.aload_n 0, 1) := by decide +kernel
theorem dX8_swap_58 : decode cX8_swap 58 = .ok (.getfield 33, 3) := by decide +kernel
theorem dX8_swap_61 : decode cX8_swap 61 = .ok (.iastore, 1) := by decide +kernel
theorem dX8_swap_62 : decode cX8_swap 62 = .ok (.iconst 0, 1) := by decide +kernel
theorem dX8_swap_63 : decode cX8_swap 63 = .ok (.ireturn, 1) := by decide +kernel
theorem dX8_total_0 : decode cX8_total 0 = .ok (.iconst 0, 1) := by decide +kernel
theorem dX8_total_1 : decode cX8_total 1 = .ok (.istore_n 2, 1) := by decide +kernel
theorem dX8_total_2 : decode cX8_total 2 = .ok (.iconst 0, 1) := by decide +kernel
theorem dX8_total_3 : decode cX8_total 3 = .ok (.istore_n 3, 1) := by decide +kernel
theorem dX8_total_4 : decode cX8_total 4 = .ok (.iload_n 3, 1) := by decide +kernel
theorem dX8_total_5 : decode cX8_total 5 = .ok (.aload_n 0, 1) := by decide +kernel
theorem dX8_total_6 : decode cX8_total 6 = .ok (.getfield 154, 3) := by decide +kernel
theorem dX8_total_9 : decode cX8_total 9 = .ok (.if_icmp .ge 15, 3) := by decide +kernel
theorem dX8_total_12 : decode cX8_total 12 = .ok (.iload_n 2, 1) := by decide +kernel
theorem dX8_total_13 : decode cX8_total 13 = .ok (.aload_n 1, 1) := by decide +kernel
theorem dX8_total_14 : decode cX8_total 14 = .ok (.iload_n 3, 1) := by decide +kernel
theorem dX8_total_15 : decode cX8_total 15 = .ok (.iaload, 1) := by decide +kernel
theorem dX8_total_16 : decode cX8_total 16 = .ok (.iadd, 1) := by decide +kernel
theorem dX8_total_17 : decode cX8_total 17 = .ok (.istore_n 2, 1) := by decide +kernel
theorem dX8_total_18 : decode cX8_total 18 = .ok (.iinc 3 1, 3) := by decide +kernel
theorem dX8_total_21 : decode cX8_total 21 = .ok (.goto (-17), 3) := by decide +kernel
theorem dX8_total_24 : decode cX8_total 24 = .ok (.iload_n 2, 1) := by decide +kernel
theorem dX8_total_25 : decode cX8_total 25 = .ok (.ireturn, 1) := by decide +kernel
theorem dX8_needs_0 : decode cX8_needs 0 = .ok (.aload_n 0, 1) := by decide +kernel
theorem dX8_needs_1 : decode cX8_needs 1 = .ok (.iconst 0, 1) := by decide +kernel
theorem dX8_needs_2 : decode cX8_needs 2 = .ok (.putfield 137, 3) := by decide +kernel
theorem dX8_needs_5 : decode cX8_needs 5 = .ok (.aload_n 0, 1) := by decide +kernel
theorem dX8_needs_6 : decode cX8_needs 6 = .ok (.iload_n 1, 1) := by decide +kernel
theorem dX8_needs_7 : decode cX8_needs 7 = .ok (.ldc2_w 163, 3) := by decide +kernel
theorem dX8_needs_10 : decode cX8_needs 10 = .ok (.invokevirtual 177, 3) := by decide +kernel
theorem dX8_needs_13 : decode cX8_needs 13 = .ok (.istore_n 2, 1) := by decide +kernel
theorem dX8_needs_14 : decode cX8_needs 14 = .ok (.iload_n 2, 1) := by decide +kernel
theorem dX8_needs_15 : decode cX8_needs 15 = .ok (.ifCond .ge 5, 3) := by decide +kernel
theorem dX8_needs_18 : decode cX8_needs 18 = .ok (.iload_n 2, 1) := by decide +kernel
theorem dX8_needs_19 : decode cX8_needs 19 = .ok (.ireturn, 1) := by decide +kernel
theorem dX8_needs_20 : decode cX8_needs 20 = .ok (.iconst 0, 1) := by decide +kernel
theorem dX8_needs_21 : decode cX8_needs 21 = .ok (.istore_n 3, 1) := by decide +kernel
theorem dX8_needs_22 : decode cX8_needs 22 = .ok (.iload_n 3, 1) := by decide +kernel
theorem dX8_needs_23 : decode cX8_needs 23 = .ok (.aload_n 0, 1) := by decide +kernel
theorem dX8_needs_24 : decode cX8_needs 24 = .ok (.getfield 154, 3) := by decide +kernel
theorem dX8_needs_27 : decode cX8_needs 27 = .ok (.if_icmp .ge 27, 3) := by decide +kernel
theorem dX8_needs_30 : decode cX8_needs 30 = .ok (.aload_n 0, 1) := by decide +kernel
theorem dX8_needs_31 : decode cX8_needs 31 = .ok (.getfield 54, 3) := by decide +kernel
theorem dX8_needs_34 : decode cX8_needs 34 = .ok (.iload_n 3, 1) := by decide +kernel
theorem dX8_needs_35 : decode cX8_needs 35 = .ok (.aload_n 0, 1) := by decide +kernel
theorem dX8_needs_36 : decode cX8_needs 36 = .ok (.getfield 16, 3) := by decide +kernel
theorem dX8_needs_39 : decode cX8_needs 39 = .ok (.bipush 60, 2) := by decide +kernel
theorem dX8_needs_41 : decode cX8_needs 41 = .ok (.iload_n 1, 1) := by decide +kernel
theorem dX8_needs_42 : decode cX8_needs 42 = .ok (.imul, 1) := by decide +kernel
theorem dX8_needs_43 : decode cX8_needs 43 = .ok (.iload_n 3, 1) := by decide +kernel
theorem dX8_needs_44 : decode cX8_needs 44 = .ok (.iadd, 1) := by decide +kernel
theorem dX8_needs_45 : decode cX8_needs 45 = .ok (.laload, 1) := by decide +kernel
theorem dX8_needs_46 : decode cX8_needs 46 = .ok (.l2i, 1) := by decide +kernel
theorem dX8_needs_47 : decode cX8_needs 47 = .ok (.iastore, 1) := by decide +kernel
theorem dX8_needs_48 : decode cX8_needs 48 = .ok (.iinc 3 1, 3) := by decide +kernel
theorem dX8_needs_51 : decode cX8_needs 51 = .ok (.goto (-29), 3) := by decide +kernel
theorem dX8_needs_54 : decode cX8_needs 54 = .ok (.aload_n 0, 1) := by decide +kernel
theorem dX8_needs_55 : decode cX8_needs 55 = .ok (.aload_n 0, 1) := by decide +kernel
theorem dX8_needs_56 : decode cX8_needs 56 = .ok (.getfield 54, 3) := by decide +kernel
theorem dX8_needs_59 : decode cX8_needs 59 = .ok (.invokevirtual 181, 3) := by decide +kernel
theorem dX8_needs_62 : decode cX8_needs 62 = .ok (.ireturn, 1) := by decide +kernel
theorem dX8_asks_0 : decode cX8_asks 0 = .ok (.aload_n 0, 1) := by decide +kernel
theorem dX8_asks_1 : decode cX8_asks 1 = .ok (.iconst 0, 1) := by decide +kernel
theorem dX8_asks_2 : decode cX8_asks 2 = .ok (.putfield 137, 3) := by decide +kernel
theorem dX8_asks_5 : decode cX8_asks 5 = .ok (.aload_n 0, 1) := by decide +kernel
theorem dX8_asks_6 : decode cX8_asks 6 = .ok (.iload_n 1, 1) := by decide +kernel
theorem dX8_asks_7 : decode cX8_asks 7 = .ok (.ldc2_w 159, 3) := by decide +kernel
theorem dX8_asks_10 : decode cX8_asks 10 = .ok (.invokevirtual 177, 3) := by decide +kernel
theorem dX8_asks_13 : decode cX8_asks 13 = .ok (.istore_n 2, 1) := by decide +kernel
theorem dX8_asks_14 : decode cX8_asks 14 = .ok (.iload_n 2, 1) := by decide +kernel
theorem dX8_asks_15 : decode cX8_asks 15 = .ok (.ifCond .ge 5, 3) := by decide +kernel
theorem dX8_asks_18 : decode cX8_asks 18 = .ok (.iload_n 2, 1) := by decide +kernel
theorem dX8_asks_19 : decode cX8_asks 19 = .ok (.ireturn, 1) := by decide +kernel
theorem dX8_asks_20 : decode cX8_asks 20 = .ok (.iconst 0, 1) := by decide +kernel
theorem dX8_asks_21 : decode cX8_asks 21 = .ok (.istore_n 3, 1) := by decide +kernel
theorem dX8_asks_22 : decode cX8_asks 22 = .ok (.iload_n 3, 1) := by decide +kernel
theorem dX8_asks_23 : decode cX8_asks 23 = .ok (.aload_n 0, 1) := by decide +kernel
theorem dX8_asks_24 : decode cX8_asks 24 = .ok (.getfield 154, 3) := by decide +kernel
theorem dX8_asks_27 : decode cX8_asks 27 = .ok (.if_icmp .ge 27, 3) := by decide +kernel
theorem dX8_asks_30 : decode cX8_asks 30 = .ok (.aload_n 0, 1) := by decide +kernel
theorem dX8_asks_31 : decode cX8_asks 31 = .ok (.getfield 57, 3) := by decide +kernel
theorem dX8_asks_34 : decode cX8_asks 34 = .ok (.iload_n 3, 1) := by decide +kernel
theorem dX8_asks_35 : decode cX8_asks 35 = .ok (.aload_n 0, 1) := by decide +kernel
theorem dX8_asks_36 : decode cX8_asks 36 = .ok (.getfield 16, 3) := by decide +kernel
theorem dX8_asks_39 : decode cX8_asks 39 = .ok (.bipush 60, 2) := by decide +kernel
theorem dX8_asks_41 : decode cX8_asks 41 = .ok (.iload_n 1, 1) := by decide +kernel
theorem dX8_asks_42 : decode cX8_asks 42 = .ok (.imul, 1) := by decide +kernel
theorem dX8_asks_43 : decode cX8_asks 43 = .ok (.iload_n 3, 1) := by decide +kernel
theorem dX8_asks_44 : decode cX8_asks 44 = .ok (.iadd, 1) := by decide +kernel
theorem dX8_asks_45 : decode cX8_asks 45 = .ok (.laload, 1) := by decide +kernel
theorem dX8_asks_46 : decode cX8_asks 46 = .ok (.l2i, 1) := by decide +kernel
theorem dX8_asks_47 : decode cX8_asks 47 = .ok (.iastore, 1) := by decide +kernel
theorem dX8_asks_48 : decode cX8_asks 48 = .ok (.iinc 3 1, 3) := by decide +kernel
theorem dX8_asks_51 : decode cX8_asks 51 = .ok (.goto (-29), 3) := by decide +kernel
theorem dX8_asks_54 : decode cX8_asks 54 = .ok (.aload_n 0, 1) := by decide +kernel
theorem dX8_asks_55 : decode cX8_asks 55 = .ok (.aload_n 0, 1) := by decide +kernel
theorem dX8_asks_56 : decode cX8_asks 56 = .ok (.getfield 57, 3) := by decide +kernel
theorem dX8_asks_59 : decode cX8_asks 59 = .ok (.invokevirtual 181, 3) := by decide +kernel
theorem dX8_asks_62 : decode cX8_asks 62 = .ok (.ireturn, 1) := by decide +kernel
theorem dX8_powerNow_0 : decode cX8_powerNow 0 = .ok (.aload_n 0, 1) := by decide +kernel
theorem dX8_powerNow_1 : decode cX8_powerNow 1 = .ok (.getfield 39, 3) := by decide +kernel
theorem dX8_powerNow_4 : decode cX8_powerNow 4 = .ok (.iload_n 1, 1) := by decide +kernel
theorem dX8_powerNow_5 : decode cX8_powerNow 5 = .ok (.iaload, 1) := by decide +kernel
theorem dX8_powerNow_6 : decode cX8_powerNow 6 = .ok (.iconst 2, 1) := by decide +kernel
theorem dX8_powerNow_7 : decode cX8_powerNow 7 = .ok (.aload_n 0, 1) := by decide +kernel
theorem dX8_powerNow_8 : decode cX8_powerNow 8 = .ok (.getfield 60, 3) := by decide +kernel
theorem dX8_powerNow_11 : decode cX8_powerNow 11 = .ok (.iload_n 1, 1) := by decide +kernel
theorem dX8_powerNow_12 : decode cX8_powerNow 12 = .ok (.iaload, 1) := by decide +kernel
theorem dX8_powerNow_13 : decode cX8_powerNow 13 = .ok (.iadd, 1) := by decide +kernel
theorem dX8_powerNow_14 : decode cX8_powerNow 14 = .ok (.imul, 1) := by decide +kernel
theorem dX8_powerNow_15 : decode cX8_powerNow 15 = .ok (.iconst 2, 1) := by decide +kernel
theorem dX8_powerNow_16 : decode cX8_powerNow 16 = .ok (.idiv, 1) := by decide +kernel
theorem dX8_powerNow_17 : decode cX8_powerNow 17 = .ok (.ireturn, 1) := by decide +kernel
theorem dX8_rateNow_0 : decode cX8_rateNow 0 = .ok (.aload_n 0, 1) := by decide +kernel
theorem dX8_rateNow_1 : decode cX8_rateNow 1 = .ok (.getfield 60, 3) := by decide +kernel
theorem dX8_rateNow_4 : decode cX8_rateNow 4 = .ok (.iload_n 1, 1) := by decide +kernel
theorem dX8_rateNow_5 : decode cX8_rateNow 5 = .ok (.iaload, 1) := by decide +kernel
theorem dX8_rateNow_6 : decode cX8_rateNow 6 = .ok (.ifCond .ne 12, 3) := by decide +kernel
theorem dX8_rateNow_9 : decode cX8_rateNow 9 = .ok (.aload_n 0, 1) := by decide +kernel
theorem dX8_rateNow_10 : decode cX8_rateNow 10 = .ok (.getfield 42, 3) := by decide +kernel
theorem dX8_rateNow_13 : decode cX8_rateNow 13 = .ok (.iload_n 1, 1) := by decide +kernel
theorem dX8_rateNow_14 : decode cX8_rateNow 14 = .ok (.iaload, 1) := by decide +kernel
theorem dX8_rateNow_15 : decode cX8_rateNow 15 = .ok (.goto 25, 3) := by decide +kernel
theorem dX8_rateNow_18 : decode cX8_rateNow 18 = .ok (.aload_n 0, 1) := by decide +kernel
theorem dX8_rateNow_19 : decode cX8_rateNow 19 = .ok (.getfield 60, 3) := by decide +kernel
theorem dX8_rateNow_22 : decode cX8_rateNow 22 = .ok (.iload_n 1, 1) := by decide +kernel
theorem dX8_rateNow_23 : decode cX8_rateNow 23 = .ok (.iaload, 1) := by decide +kernel
theorem dX8_rateNow_24 : decode cX8_rateNow 24 = .ok (.iconst 1, 1) := by decide +kernel
theorem dX8_rateNow_25 : decode cX8_rateNow 25 = .ok (.if_icmp .ne 14, 3) := by decide +kernel
theorem dX8_rateNow_28 : decode cX8_rateNow 28 = .ok (.aload_n 0, 1) := by decide +kernel
theorem dX8_rateNow_29 : decode cX8_rateNow 29 = .ok (.getfield 42, 3) := by decide +kernel
theorem dX8_rateNow_32 : decode cX8_rateNow 32 = .ok (.iload_n 1, 1) := by decide +kernel
theorem dX8_rateNow_33 : decode cX8_rateNow 33 = .ok (.iaload, 1) := by decide +kernel
theorem dX8_rateNow_34 : decode cX8_rateNow 34 = .ok (.iconst 2, 1) := by decide +kernel
theorem dX8_rateNow_35 : decode cX8_rateNow 35 = .ok (.idiv, 1) := by decide +kernel
theorem dX8_rateNow_36 : decode cX8_rateNow 36 = .ok (.goto 4, 3) := by decide +kernel
theorem dX8_rateNow_39 : decode cX8_rateNow 39 = .ok (.iconst 0, 1) := by decide +kernel
theorem dX8_rateNow_40 : decode cX8_rateNow 40 = .ok (.ireturn, 1) := by decide +kernel
theorem dX8_isLegal_0 : decode cX8_isLegal 0 = .ok (.iconst 0, 1) := by decide +kernel
theorem dX8_isLegal_1 : decode cX8_isLegal 1 = .ok (.istore_n 2, 1) := by decide +kernel
theorem dX8_isLegal_2 : decode cX8_isLegal 2 = .ok (.iconst 0, 1) := by decide +kernel
theorem dX8_isLegal_3 : decode cX8_isLegal 3 = .ok (.istore_n 3, 1) := by decide +kernel
theorem dX8_isLegal_4 : decode cX8_isLegal 4 = .ok (.iconst 0, 1) := by decide +kernel
theorem dX8_isLegal_5 : decode cX8_isLegal 5 = .ok (.istore 4, 2) := by decide +kernel
theorem dX8_isLegal_7 : decode cX8_isLegal 7 = .ok (.iconst 0, 1) := by decide +kernel
theorem dX8_isLegal_8 : decode cX8_isLegal 8 = .ok (.istore 5, 2) := by decide +kernel
theorem dX8_isLegal_10 : decode cX8_isLegal 10 = .ok (.iconst 0, 1) := by decide +kernel
theorem dX8_isLegal_11 : decode cX8_isLegal 11 = .ok (.istore 6, 2) := by decide +kernel
theorem dX8_isLegal_13 : decode cX8_isLegal 13 = .ok (.iconst 0, 1) := by decide +kernel
theorem dX8_isLegal_14 : decode cX8_isLegal 14 = .ok (.istore 7, 2) := by decide +kernel
theorem dX8_isLegal_16 : decode cX8_isLegal 16 = .ok (.iload 7, 2) := by decide +kernel
theorem dX8_isLegal_18 : decode cX8_isLegal 18 = .ok (.aload_n 0, 1) := by decide +kernel
theorem dX8_isLegal_19 : decode cX8_isLegal 19 = .ok (.getfield 154, 3) := by decide +kernel
theorem dX8_isLegal_22 : decode cX8_isLegal 22 = .ok (.if_icmp .ge 134, 3) := by decide +kernel
theorem dX8_isLegal_25 : decode cX8_isLegal 25 = .ok (.iload_n 1, 1) := by decide +kernel
theorem dX8_isLegal_26 : decode cX8_isLegal 26 = .ok (.iload 7, 2) := by decide +kernel
theorem dX8_isLegal_28 : decode cX8_isLegal 28 = .ok (.ishr, 1) := by decide +kernel
theorem dX8_isLegal_29 : decode cX8_isLegal 29 = .ok (.iconst 1, 1) := by decide +kernel
theorem dX8_isLegal_30 : decode cX8_isLegal 30 = .ok (.iand, 1) := by decide +kernel
theorem dX8_isLegal_31 : decode cX8_isLegal 31 = .ok (.ifCond .ne 6, 3) := by decide +kernel
theorem dX8_isLegal_34 : decode cX8_isLegal 34 = .ok (.goto 116, 3) := by decide +kernel
theorem dX8_isLegal_37 : decode cX8_isLegal 37 = .ok (.aload_n 0, 1) := by decide +kernel
theorem dX8_isLegal_38 : decode cX8_isLegal 38 = .ok (.getfield 63, 3) := by decide +kernel
theorem dX8_isLegal_41 : decode cX8_isLegal 41 = .ok (.iload 7, 2) := by decide +kernel
theorem dX8_isLegal_43 : decode cX8_isLegal 43 = .ok (.iaload, 1) := by decide +kernel
theorem dX8_isLegal_44 : decode cX8_isLegal 44 = .ok (.iload_n 1, 1) := by decide +kernel
theorem dX8_isLegal_45 : decode cX8_isLegal 45 = .ok (.iand, 1) := by decide +kernel
theorem dX8_isLegal_46 : decode cX8_isLegal 46 = .ok (.ifCond .ne 28, 3) := by decide +kernel
theorem dX8_isLegal_49 : decode cX8_isLegal 49 = .ok (.aload_n 0, 1) := by decide +kernel
theorem dX8_isLegal_50 : decode cX8_isLegal 50 = .ok (.getfield 78, 3) := by decide +kernel
theorem dX8_isLegal_53 : decode cX8_isLegal 53 = .ok (.aload_n 0, 1) := by decide +kernel
theorem dX8_isLegal_54 : decode cX8_isLegal 54 = .ok (.getfield 48, 3) := by decide +kernel
theorem dX8_isLegal_57 : decode cX8_isLegal 57 = .ok (.iload 7, 2) := by decide +kernel
theorem dX8_isLegal_59 : decode cX8_isLegal 59 = .ok (.iaload, 1) := by decide +kernel
theorem dX8_isLegal_60 : decode cX8_isLegal 60 = .ok (.baload, 1) := by decide +kernel
theorem dX8_isLegal_61 : decode cX8_isLegal 61 = .ok (.ifCond .eq 13, 3) := by decide +kernel
theorem dX8_isLegal_64 : decode cX8_isLegal 64 = .ok (.aload_n 0, 1) := by decide +kernel
theorem dX8_isLegal_65 : decode cX8_isLegal 65 = .ok (.getfield 51, 3) := by decide +kernel
theorem dX8_isLegal_68 : decode cX8_isLegal 68 = .ok (.iload 7, 2) := by decide +kernel
theorem dX8_isLegal_70 : decode cX8_isLegal 70 = .ok (.iaload, 1) := by decide +kernel
theorem dX8_isLegal_71 : decode cX8_isLegal 71 = .ok (.ifCond .le 5, 3) := by decide +kernel
theorem dX8_isLegal_74 : decode cX8_isLegal 74 = .ok (.iconst 0, 1) := by decide +kernel
theorem dX8_isLegal_75 : decode cX8_isLegal 75 = .ok (.ireturn, 1) := by decide +kernel
theorem dX8_isLegal_76 : decode cX8_isLegal 76 = .ok (.iinc 2 1, 3) := by decide +kernel
theorem dX8_isLegal_79 : decode cX8_isLegal 79 = .ok (.iload_n 3, 1) := by decide +kernel
theorem dX8_isLegal_80 : decode cX8_isLegal 80 = .ok (.aload_n 0, 1) := by decide +kernel
theorem dX8_isLegal_81 : decode cX8_isLegal 81 = .ok (.iload 7, 2) := by decide +kernel
theorem dX8_isLegal_83 : decode cX8_isLegal 83 = .ok (.invokevirtual 185, 3) := by decide +kernel
theorem dX8_isLegal_86 : decode cX8_isLegal 86 = .ok (.iadd, 1) := by decide +kernel
theorem dX8_isLegal_87 : decode cX8_isLegal 87 = .ok (.istore_n 3, 1) := by decide +kernel
theorem dX8_isLegal_88 : decode cX8_isLegal 88 = .ok (.iload 4, 2) := by decide +kernel
theorem dX8_isLegal_90 : decode cX8_isLegal 90 = .ok (.aload_n 0, 1) := by decide +kernel
theorem dX8_isLegal_91 : decode cX8_isLegal 91 = .ok (.getfield 48, 3) := by decide +kernel
theorem dX8_isLegal_94 : decode cX8_isLegal 94 = .ok (.iload 7, 2) := by decide +kernel
theorem dX8_isLegal_96 : decode cX8_isLegal 96 = .ok (.iaload, 1) := by decide +kernel
theorem dX8_isLegal_97 : decode cX8_isLegal 97 = .ok (.ifCond .ne 7, 3) := by decide +kernel
theorem dX8_isLegal_100 : decode cX8_isLegal 100 = .ok (.iconst 1, 1) := by decide +kernel
theorem dX8_isLegal_101 : decode cX8_isLegal 101 = .ok (.goto 4, 3) := by decide +kernel
theorem dX8_isLegal_104 : decode cX8_isLegal 104 = .ok (.iconst 0, 1) := by decide +kernel
theorem dX8_isLegal_105 : decode cX8_isLegal 105 = .ok (.iadd, 1) := by decide +kernel
theorem dX8_isLegal_106 : decode cX8_isLegal 106 = .ok (.istore 4, 2) := by decide +kernel
theorem dX8_isLegal_108 : decode cX8_isLegal 108 = .ok (.iload 5, 2) := by decide +kernel
theorem dX8_isLegal_110 : decode cX8_isLegal 110 = .ok (.aload_n 0, 1) := by decide +kernel
theorem dX8_isLegal_111 : decode cX8_isLegal 111 = .ok (.getfield 48, 3) := by decide +kernel
theorem dX8_isLegal_114 : decode cX8_isLegal 114 = .ok (.iload 7, 2) := by decide +kernel
theorem dX8_isLegal_116 : decode cX8_isLegal 116 = .ok (.iaload, 1) := by decide +kernel
theorem dX8_isLegal_117 : decode cX8_isLegal 117 = .ok (.iconst 1, 1) := by decide +kernel
theorem dX8_isLegal_118 : decode cX8_isLegal 118 = .ok (.if_icmp .ne 7, 3) := by decide +kernel
theorem dX8_isLegal_121 : decode cX8_isLegal 121 = .ok (.iconst 1, 1) := by decide +kernel
theorem dX8_isLegal_122 : decode cX8_isLegal 122 = .ok (.goto 4, 3) := by decide +kernel
theorem dX8_isLegal_125 : decode cX8_isLegal 125 = .ok (.iconst 0, 1) := by decide +kernel
theorem dX8_isLegal_126 : decode cX8_isLegal 126 = .ok (.iadd, 1) := by decide +kernel
theorem dX8_isLegal_127 : decode cX8_isLegal 127 = .ok (.istore 5, 2) := by decide +kernel
theorem dX8_isLegal_129 : decode cX8_isLegal 129 = .ok (.iload 6, 2) := by decide +kernel
theorem dX8_isLegal_131 : decode cX8_isLegal 131 = .ok (.aload_n 0, 1) := by decide +kernel
theorem dX8_isLegal_132 : decode cX8_isLegal 132 = .ok (.getfield 48, 3) := by decide +kernel
theorem dX8_isLegal_135 : decode cX8_isLegal 135 = .ok (.iload 7, 2) := by decide +kernel
theorem dX8_isLegal_137 : decode cX8_isLegal 137 = .ok (.iaload, 1) := by decide +kernel
theorem dX8_isLegal_138 : decode cX8_isLegal 138 = .ok (.iconst 2, 1) := by decide +kernel
theorem dX8_isLegal_139 : decode cX8_isLegal 139 = .ok (.if_icmp .ne 7, 3) := by decide +kernel
theorem dX8_isLegal_142 : decode cX8_isLegal 142 = .ok (.iconst 1, 1) := by decide +kernel
theorem dX8_isLegal_143 : decode cX8_isLegal 143 = .ok (.goto 4, 3) := by decide +kernel
theorem dX8_isLegal_146 : decode cX8_isLegal 146 = .ok (.iconst 0, 1) := by decide +kernel
theorem dX8_isLegal_147 : decode cX8_isLegal 147 = .ok (.iadd, 1) := by decide +kernel
theorem dX8_isLegal_148 : decode cX8_isLegal 148 = .ok (.istore 6, 2) := by decide +kernel
theorem dX8_isLegal_150 : decode cX8_isLegal 150 = .ok (.iinc 7 1, 3) := by decide +kernel
theorem dX8_isLegal_153 : decode cX8_isLegal 153 = .ok (.goto (-137), 3) := by decide +kernel
theorem dX8_isLegal_156 : decode cX8_isLegal 156 = .ok (.iload_n 2, 1) := by decide +kernel
theorem dX8_isLegal_157 : decode cX8_isLegal 157 = .ok (.aload_n 0, 1) := by decide +kernel
theorem dX8_isLegal_158 : decode cX8_isLegal 158 = .ok (.getfield 23, 3) := by decide +kernel
theorem dX8_isLegal_161 : decode cX8_isLegal 161 = .ok (.if_icmp .gt 48, 3) := by decide +kernel
theorem dX8_isLegal_164 : decode cX8_isLegal 164 = .ok (.iload_n 3, 1) := by decide +kernel
theorem dX8_isLegal_165 : decode cX8_isLegal 165 = .ok (.aload_n 0, 1) := by decide +kernel
theorem dX8_isLegal_166 : decode cX8_isLegal 166 = .ok (.getfield 27, 3) := by decide +kernel
theorem dX8_isLegal_169 : decode cX8_isLegal 169 = .ok (.if_icmp .gt 40, 3) := by decide +kernel
theorem dX8_isLegal_172 : decode cX8_isLegal 172 = .ok (.iload 4, 2) := by decide +kernel
theorem dX8_isLegal_174 : decode cX8_isLegal 174 = .ok (.aload_n 0, 1) := by decide +kernel
theorem dX8_isLegal_175 : decode cX8_isLegal 175 = .ok (.getfield 75, 3) := by decide +kernel
theorem dX8_isLegal_178 : decode cX8_isLegal 178 = .ok (.iconst 0, 1) := by decide +kernel
theorem dX8_isLegal_179 : decode cX8_isLegal 179 = .ok (.iaload, 1) := by decide +kernel
theorem dX8_isLegal_180 : decode cX8_isLegal 180 = .ok (.if_icmp .gt 29, 3) := by decide +kernel
theorem dX8_isLegal_183 : decode cX8_isLegal 183 = .ok (.iload 5, 2) := by decide +kernel
theorem dX8_isLegal_185 : decode cX8_isLegal 185 = .ok (.aload_n 0, 1) := by decide +kernel
theorem dX8_isLegal_186 : decode cX8_isLegal 186 = .ok (.getfield 75, 3) := by decide +kernel
theorem dX8_isLegal_189 : decode cX8_isLegal 189 = .ok (.iconst 1, 1) := by decide +kernel
theorem dX8_isLegal_190 : decode cX8_isLegal 190 = .ok (.iaload, 1) := by decide +kernel
theorem dX8_isLegal_191 : decode cX8_isLegal 191 = .ok (.if_icmp .gt 18, 3) := by decide +kernel
theorem dX8_isLegal_194 : decode cX8_isLegal 194 = .ok (.iload 6, 2) := by decide +kernel
theorem dX8_isLegal_196 : decode cX8_isLegal 196 = .ok (.aload_n 0, 1) := by decide +kernel
theorem dX8_isLegal_197 : decode cX8_isLegal 197 = .ok (.getfield 75, 3) := by decide +kernel
theorem dX8_isLegal_200 : decode cX8_isLegal 200 = .ok (.iconst 2, 1) := by decide +kernel
theorem dX8_isLegal_201 : decode cX8_isLegal 201 = .ok (.iaload, 1) := by decide +kernel
theorem dX8_isLegal_202 : decode cX8_isLegal 202 = .ok (.if_icmp .gt 7, 3) := by decide +kernel
theorem dX8_isLegal_205 : decode cX8_isLegal 205 = .ok (.iconst 1, 1) := by decide +kernel
theorem dX8_isLegal_206 : decode cX8_isLegal 206 = .ok (.goto 4, 3) := by decide +kernel
theorem dX8_isLegal_209 : decode cX8_isLegal 209 = .ok (.iconst 0, 1) := by decide +kernel
theorem dX8_isLegal_210 : decode cX8_isLegal 210 = .ok (.ireturn, 1) := by decide +kernel
theorem dX8_legal_0 : decode cX8_legal 0 = .ok (.aload_n 0, 1) := by decide +kernel
theorem dX8_legal_1 : decode cX8_legal 1 = .ok (.iconst 0, 1) := by decide +kernel
theorem dX8_legal_2 : decode cX8_legal 2 = .ok (.putfield 137, 3) := by decide +kernel
theorem dX8_legal_5 : decode cX8_legal 5 = .ok (.aload_n 0, 1) := by decide +kernel
theorem dX8_legal_6 : decode cX8_legal 6 = .ok (.iload_n 1, 1) := by decide +kernel
theorem dX8_legal_7 : decode cX8_legal 7 = .ok (.i2l, 1) := by decide +kernel
theorem dX8_legal_8 : decode cX8_legal 8 = .ok (.invokevirtual 189, 3) := by decide +kernel
theorem dX8_legal_11 : decode cX8_legal 11 = .ok (.ifCond .eq 19, 3) := by decide +kernel
theorem dX8_legal_14 : decode cX8_legal 14 = .ok (.aload_n 0, 1) := by decide +kernel
theorem dX8_legal_15 : decode cX8_legal 15 = .ok (.iload_n 1, 1) := by decide +kernel
theorem dX8_legal_16 : decode cX8_legal 16 = .ok (.invokevirtual 193, 3) := by decide +kernel
theorem dX8_legal_19 : decode cX8_legal 19 = .ok (.ifCond .eq 7, 3) := by decide +kernel
theorem dX8_legal_22 : decode cX8_legal 22 = .ok (.iconst 1, 1) := by decide +kernel
theorem dX8_legal_23 : decode cX8_legal 23 = .ok (.goto 9, 3) := by decide +kernel
theorem dX8_legal_26 : decode cX8_legal 26 = .ok (.iconst 0, 1) := by decide +kernel
theorem dX8_legal_27 : decode cX8_legal 27 = .ok (.goto 5, 3) := by decide +kernel
theorem dX8_legal_30 : decode cX8_legal 30 = .ok (.bipush (-2), 2) := by decide +kernel
theorem dX8_legal_32 : decode cX8_legal 32 = .ok (.ireturn, 1) := by decide +kernel
theorem dX8_sets_0 : decode cX8_sets 0 = .ok (.aload_n 0, 1) := by decide +kernel
theorem dX8_sets_1 : decode cX8_sets 1 = .ok (.iconst 0, 1) := by decide +kernel
theorem dX8_sets_2 : decode cX8_sets 2 = .ok (.putfield 137, 3) := by decide +kernel
theorem dX8_sets_5 : decode cX8_sets 5 = .ok (.iconst 0, 1) := by decide +kernel
theorem dX8_sets_6 : decode cX8_sets 6 = .ok (.istore_n 1, 1) := by decide +kernel
theorem dX8_sets_7 : decode cX8_sets 7 = .ok (.iconst 0, 1) := by decide +kernel
theorem dX8_sets_8 : decode cX8_sets 8 = .ok (.istore_n 2, 1) := by decide +kernel
theorem dX8_sets_9 : decode cX8_sets 9 = .ok (.iload_n 2, 1) := by decide +kernel
theorem dX8_sets_10 : decode cX8_sets 10 = .ok (.iconst 1, 1) := by decide +kernel
theorem dX8_sets_11 : decode cX8_sets 11 = .ok (.aload_n 0, 1) := by decide +kernel
theorem dX8_sets_12 : decode cX8_sets 12 = .ok (.getfield 154, 3) := by decide +kernel
theorem dX8_sets_15 : decode cX8_sets 15 = .ok (.ishl, 1) := by decide +kernel
theorem dX8_sets_16 : decode cX8_sets 16 = .ok (.if_icmp .ge 25, 3) := by decide +kernel
theorem dX8_sets_19 : decode cX8_sets 19 = .ok (.iload_n 1, 1) := by decide +kernel
theorem dX8_sets_20 : decode cX8_sets 20 = .ok (.aload_n 0, 1) := by decide +kernel
theorem dX8_sets_21 : decode cX8_sets 21 = .ok (.iload_n 2, 1) := by decide +kernel
theorem dX8_sets_22 : decode cX8_sets 22 = .ok (.invokevirtual 193, 3) := by decide +kernel
theorem dX8_sets_25 : decode cX8_sets 25 = .ok (.ifCond .eq 7, 3) := by decide +kernel
theorem dX8_sets_28 : decode cX8_sets 28 = .ok (.iconst 1, 1) := by decide +kernel
theorem dX8_sets_29 : decode cX8_sets 29 = .ok (.goto 4, 3) := by decide +kernel
theorem dX8_sets_32 : decode cX8_sets 32 = .ok (.iconst 0, 1) := by decide +kernel
theorem dX8_sets_33 : decode cX8_sets 33 = .ok (.iadd, 1) := by decide +kernel
theorem dX8_sets_34 : decode cX8_sets 34 = .ok (.istore_n 1, 1) := by decide +kernel
theorem dX8_sets_35 : decode cX8_sets 35 = .ok (.iinc 2 1, 3) := by decide +kernel
theorem dX8_sets_38 : decode cX8_sets 38 = .ok (.goto (-29), 3) := by decide +kernel
theorem dX8_sets_41 : decode cX8_sets 41 = .ok (.iload_n 1, 1) := by decide +kernel
theorem dX8_sets_42 : decode cX8_sets 42 = .ok (.ireturn, 1) := by decide +kernel
theorem dX8_isWhole_0 : decode cX8_isWhole 0 = .ok (.iload_n 1, 1) := by decide +kernel
theorem dX8_isWhole_1 : decode cX8_isWhole 1 = .ok (.ifCond .eq 20, 3) := by decide +kernel
theorem dX8_isWhole_4 : decode cX8_isWhole 4 = .ok (.iload_n 1, 1) := by decide +kernel
theorem dX8_isWhole_5 : decode cX8_isWhole 5 = .ok (.iload_n 2, 1) := by decide +kernel
theorem dX8_isWhole_6 : decode cX8_isWhole 6 = .ok (.iconst (-1), 1) := by decide +kernel
theorem dX8_isWhole_7 : decode cX8_isWhole 7 = .ok (.ixor, 1) := by decide +kernel
theorem dX8_isWhole_8 : decode cX8_isWhole 8 = .ok (.iand, 1) := by decide +kernel
theorem dX8_isWhole_9 : decode cX8_isWhole 9 = .ok (.ifCond .ne 12, 3) := by decide +kernel
theorem dX8_isWhole_12 : decode cX8_isWhole 12 = .ok (.aload_n 0, 1) := by decide +kernel
theorem dX8_isWhole_13 : decode cX8_isWhole 13 = .ok (.getfield 119, 3) := by decide +kernel
theorem dX8_isWhole_16 : decode cX8_isWhole 16 = .ok (.iload_n 1, 1) := by decide +kernel
theorem dX8_isWhole_17 : decode cX8_isWhole 17 = .ok (.baload, 1) := by decide +kernel
theorem dX8_isWhole_18 : decode cX8_isWhole 18 = .ok (.ifCond .ne 5, 3) := by decide +kernel
theorem dX8_isWhole_21 : decode cX8_isWhole 21 = .ok (.iconst 0, 1) := by decide +kernel
theorem dX8_isWhole_22 : decode cX8_isWhole 22 = .ok (.ireturn, 1) := by decide +kernel
theorem dX8_isWhole_23 : decode cX8_isWhole 23 = .ok (.iconst 0, 1) := by decide +kernel
theorem dX8_isWhole_24 : decode cX8_isWhole 24 = .ok (.istore_n 3, 1) := by decide +kernel
theorem dX8_isWhole_25 : decode cX8_isWhole 25 = .ok (.iload_n 3, 1) := by decide +kernel
theorem dX8_isWhole_26 : decode cX8_isWhole 26 = .ok (.aload_n 0, 1) := by decide +kernel
theorem dX8_isWhole_27 : decode cX8_isWhole 27 = .ok (.getfield 154, 3) := by decide +kernel
theorem dX8_isWhole_30 : decode cX8_isWhole 30 = .ok (.if_icmp .ge 41, 3) := by decide +kernel
theorem dX8_isWhole_33 : decode cX8_isWhole 33 = .ok (.iload_n 2, 1) := by decide +kernel
theorem dX8_isWhole_34 : decode cX8_isWhole 34 = .ok (.iload_n 3, 1) := by decide +kernel
theorem dX8_isWhole_35 : decode cX8_isWhole 35 = .ok (.ishr, 1) := by decide +kernel
theorem dX8_isWhole_36 : decode cX8_isWhole 36 = .ok (.iconst 1, 1) := by decide +kernel
theorem dX8_isWhole_37 : decode cX8_isWhole 37 = .ok (.iand, 1) := by decide +kernel
theorem dX8_isWhole_38 : decode cX8_isWhole 38 = .ok (.iconst 1, 1) := by decide +kernel
theorem dX8_isWhole_39 : decode cX8_isWhole 39 = .ok (.if_icmp .ne 26, 3) := by decide +kernel
theorem dX8_isWhole_42 : decode cX8_isWhole 42 = .ok (.iload_n 1, 1) := by decide +kernel
theorem dX8_isWhole_43 : decode cX8_isWhole 43 = .ok (.iload_n 3, 1) := by decide +kernel
theorem dX8_isWhole_44 : decode cX8_isWhole 44 = .ok (.ishr, 1) := by decide +kernel
theorem dX8_isWhole_45 : decode cX8_isWhole 45 = .ok (.iconst 1, 1) := by decide +kernel
theorem dX8_isWhole_46 : decode cX8_isWhole 46 = .ok (.iand, 1) := by decide +kernel
theorem dX8_isWhole_47 : decode cX8_isWhole 47 = .ok (.ifCond .ne 18, 3) := by decide +kernel
theorem dX8_isWhole_50 : decode cX8_isWhole 50 = .ok (.aload_n 0, 1) := by decide +kernel
theorem dX8_isWhole_51 : decode cX8_isWhole 51 = .ok (.getfield 119, 3) := by decide +kernel
theorem dX8_isWhole_54 : decode cX8_isWhole 54 = .ok (.iload_n 1, 1) := by decide +kernel
theorem dX8_isWhole_55 : decode cX8_isWhole 55 = .ok (.iconst 1, 1) := by decide +kernel
theorem dX8_isWhole_56 : decode cX8_isWhole 56 = .ok (.iload_n 3, 1) := by decide +kernel
theorem dX8_isWhole_57 : decode cX8_isWhole 57 = .ok (.ishl, 1) := by decide +kernel
theorem dX8_isWhole_58 : decode cX8_isWhole 58 = .ok (.ior, 1) := by decide +kernel
theorem dX8_isWhole_59 : decode cX8_isWhole 59 = .ok (.baload, 1) := by decide +kernel
theorem dX8_isWhole_60 : decode cX8_isWhole 60 = .ok (.ifCond .eq 5, 3) := by decide +kernel
theorem dX8_isWhole_63 : decode cX8_isWhole 63 = .ok (.iconst 0, 1) := by decide +kernel
theorem dX8_isWhole_64 : decode cX8_isWhole 64 = .ok (.ireturn, 1) := by decide +kernel
theorem dX8_isWhole_65 : decode cX8_isWhole 65 = .ok (.iinc 3 1, 3) := by decide +kernel
theorem dX8_isWhole_68 : decode cX8_isWhole 68 = .ok (.goto (-43), 3) := by decide +kernel
theorem dX8_isWhole_71 : decode cX8_isWhole 71 = .ok (.iconst 1, 1) := by decide +kernel
theorem dX8_isWhole_72 : decode cX8_isWhole 72 = .ok (.ireturn, 1) := by decide +kernel
theorem dX8_sumOf_0 : decode cX8_sumOf 0 = .ok (.iconst 0, 1) := by decide +kernel
theorem dX8_sumOf_1 : decode cX8_sumOf 1 = .ok (.istore_n 1, 1) := by decide +kernel
theorem dX8_sumOf_2 : decode cX8_sumOf 2 = .ok (.iconst 0, 1) := by decide +kernel
theorem dX8_sumOf_3 : decode cX8_sumOf 3 = .ok (.istore_n 2, 1) := by decide +kernel
theorem dX8_sumOf_4 : decode cX8_sumOf 4 = .ok (.iload_n 2, 1) := by decide +kernel
theorem dX8_sumOf_5 : decode cX8_sumOf 5 = .ok (.aload_n 0, 1) := by decide +kernel
theorem dX8_sumOf_6 : decode cX8_sumOf 6 = .ok (.getfield 154, 3) := by decide +kernel
theorem dX8_sumOf_9 : decode cX8_sumOf 9 = .ok (.if_icmp .ge 21, 3) := by decide +kernel
theorem dX8_sumOf_12 : decode cX8_sumOf 12 = .ok (.bipush 10, 2) := by decide +kernel
theorem dX8_sumOf_14 : decode cX8_sumOf 14 = .ok (.iload_n 1, 1) := by decide +kernel
theorem dX8_sumOf_15 : decode cX8_sumOf 15 = .ok (.imul, 1) := by decide +kernel
theorem dX8_sumOf_16 : decode cX8_sumOf 16 = .ok (.aload_n 0, 1) := by decide +kernel
theorem dX8_sumOf_17 : decode cX8_sumOf 17 = .ok (.getfield 110, 3) := by decide +kernel
theorem dX8_sumOf_20 : decode cX8_sumOf 20 = .ok (.iload_n 2, 1) := by decide +kernel
theorem dX8_sumOf_21 : decode cX8_sumOf 21 = .ok (.iaload, 1) := by decide +kernel
theorem dX8_sumOf_22 : decode cX8_sumOf 22 = .ok (.iadd, 1) := by decide +kernel
theorem dX8_sumOf_23 : decode cX8_sumOf 23 = .ok (.istore_n 1, 1) := by decide +kernel
theorem dX8_sumOf_24 : decode cX8_sumOf 24 = .ok (.iinc 2 1, 3) := by decide +kernel
theorem dX8_sumOf_27 : decode cX8_sumOf 27 = .ok (.goto (-23), 3) := by decide +kernel
theorem dX8_sumOf_30 : decode cX8_sumOf 30 = .ok (.iload_n 1, 1) := by decide +kernel
theorem dX8_sumOf_31 : decode cX8_sumOf 31 = .ok (.bipush 31, 2) := by decide +kernel
theorem dX8_sumOf_33 : decode cX8_sumOf 33 = .ok (.imul, 1) := by decide +kernel
theorem dX8_sumOf_34 : decode cX8_sumOf 34 = .ok (.iload_n 1, 1) := by decide +kernel
theorem dX8_sumOf_35 : decode cX8_sumOf 35 = .ok (.bipush 7, 2) := by decide +kernel
theorem dX8_sumOf_37 : decode cX8_sumOf 37 = .ok (.iushr, 1) := by decide +kernel
theorem dX8_sumOf_38 : decode cX8_sumOf 38 = .ok (.iadd, 1) := by decide +kernel
theorem dX8_sumOf_39 : decode cX8_sumOf 39 = .ok (.ireturn, 1) := by decide +kernel
theorem dX8_isNew_0 : decode cX8_isNew 0 = .ok (.aload_n 0, 1) := by decide +kernel
theorem dX8_isNew_1 : decode cX8_isNew 1 = .ok (.getfield 113, 3) := by decide +kernel
theorem dX8_isNew_4 : decode cX8_isNew 4 = .ok (.iload_n 1, 1) := by decide +kernel
theorem dX8_isNew_5 : decode cX8_isNew 5 = .ok (.sipush 8191, 3) := by decide +kernel
theorem dX8_isNew_8 : decode cX8_isNew 8 = .ok (.iand, 1) := by decide +kernel
theorem dX8_isNew_9 : decode cX8_isNew 9 = .ok (.iaload, 1) := by decide +kernel
theorem dX8_isNew_10 : decode cX8_isNew 10 = .ok (.istore_n 2, 1) := by decide +kernel
theorem dX8_isNew_11 : decode cX8_isNew 11 = .ok (.iload_n 2, 1) := by decide +kernel
theorem dX8_isNew_12 : decode cX8_isNew 12 = .ok (.ifCond .lt 72, 3) := by decide +kernel
theorem dX8_isNew_15 : decode cX8_isNew 15 = .ok (.aload_n 0, 1) := by decide +kernel
theorem dX8_isNew_16 : decode cX8_isNew 16 = .ok (.getfield 101, 3) := by decide +kernel
theorem dX8_isNew_19 : decode cX8_isNew 19 = .ok (.iload_n 2, 1) := by decide +kernel
theorem dX8_isNew_20 : decode cX8_isNew 20 = .ok (.iaload, 1) := by decide +kernel
theorem dX8_isNew_21 : decode cX8_isNew 21 = .ok (.iload_n 1, 1) := by decide +kernel
theorem dX8_isNew_22 : decode cX8_isNew 22 = .ok (.if_icmp .eq 6, 3) := by decide +kernel
theorem dX8_isNew_25 : decode cX8_isNew 25 = .ok (.goto 49, 3) := by decide +kernel
theorem dX8_isNew_28 : decode cX8_isNew 28 = .ok (.iconst 0, 1) := by decide +kernel
theorem dX8_isNew_29 : decode cX8_isNew 29 = .ok (.istore_n 3, 1) := by decide +kernel
theorem dX8_isNew_30 : decode cX8_isNew 30 = .ok (.iload_n 3, 1) := by decide +kernel
theorem dX8_isNew_31 : decode cX8_isNew 31 = .ok (.aload_n 0, 1) := by decide +kernel
theorem dX8_isNew_32 : decode cX8_isNew 32 = .ok (.getfield 154, 3) := by decide +kernel
theorem dX8_isNew_35 : decode cX8_isNew 35 = .ok (.if_icmp .ge 29, 3) := by decide +kernel
theorem dX8_isNew_38 : decode cX8_isNew 38 = .ok (.aload_n 0, 1) := by decide +kernel
theorem dX8_isNew_39 : decode cX8_isNew 39 = .ok (.getfield 98, 3) := by decide +kernel
theorem dX8_isNew_42 : decode cX8_isNew 42 = .ok (.bipush 10, 2) := by decide +kernel
theorem dX8_isNew_44 : decode cX8_isNew 44 = .ok (.iload_n 2, 1) := by decide +kernel
theorem dX8_isNew_45 : decode cX8_isNew 45 = .ok (.imul, 1) := by decide +kernel
theorem dX8_isNew_46 : decode cX8_isNew 46 = .ok (.iload_n 3, 1) := by decide +kernel
theorem dX8_isNew_47 : decode cX8_isNew 47 = .ok (.iadd, 1) := by decide +kernel
theorem dX8_isNew_48 : decode cX8_isNew 48 = .ok (.iaload, 1) := by decide +kernel
theorem dX8_isNew_49 : decode cX8_isNew 49 = .ok (.aload_n 0, 1) := by decide +kernel
theorem dX8_isNew_50 : decode cX8_isNew 50 = .ok (.getfield 110, 3) := by decide +kernel
theorem dX8_isNew_53 : decode cX8_isNew 53 = .ok (.iload_n 3, 1) := by decide +kernel
theorem dX8_isNew_54 : decode cX8_isNew 54 = .ok (.iaload, 1) := by decide +kernel
theorem dX8_isNew_55 : decode cX8_isNew 55 = .ok (.if_icmp .ne 9, 3) := by decide +kernel
theorem dX8_isNew_58 : decode cX8_isNew 58 = .ok (.iinc 3 1, 3) := by decide +kernel
theorem dX8_isNew_61 : decode cX8_isNew 61 = .ok (.goto (-31), 3) := by decide +kernel
theorem dX8_isNew_64 : decode cX8_isNew 64 = .ok (.iload_n 3, 1) := by decide +kernel
theorem dX8_isNew_65 : decode cX8_isNew 65 = .ok (.aload_n 0, 1) := by decide +kernel
theorem dX8_isNew_66 : decode cX8_isNew 66 = .ok (.getfield 154, 3) := by decide +kernel
theorem dX8_isNew_69 : decode cX8_isNew 69 = .ok (.if_icmp .ne 5, 3) := by decide +kernel
theorem dX8_isNew_72 : decode cX8_isNew 72 = .ok (.iconst 0, 1) := by decide +kernel
theorem dX8_isNew_73 : decode cX8_isNew 73 = .ok (.ireturn, 1) := by decide +kernel
theorem dX8_isNew_74 : decode cX8_isNew 74 = .ok (.aload_n 0, 1) := by decide +kernel
theorem dX8_isNew_75 : decode cX8_isNew 75 = .ok (.getfield 116, 3) := by decide +kernel
theorem dX8_isNew_78 : decode cX8_isNew 78 = .ok (.iload_n 2, 1) := by decide +kernel
theorem dX8_isNew_79 : decode cX8_isNew 79 = .ok (.iaload, 1) := by decide +kernel
theorem dX8_isNew_80 : decode cX8_isNew 80 = .ok (.istore_n 2, 1) := by decide +kernel
theorem dX8_isNew_81 : decode cX8_isNew 81 = .ok (.goto (-70), 3) := by decide +kernel
theorem dX8_isNew_84 : decode cX8_isNew 84 = .ok (.iconst 1, 1) := by decide +kernel
theorem dX8_isNew_85 : decode cX8_isNew 85 = .ok (.ireturn, 1) := by decide +kernel
theorem dX8_lays_0 : decode cX8_lays 0 = .ok (.iconst 0, 1) := by decide +kernel
theorem dX8_lays_1 : decode cX8_lays 1 = .ok (.istore 4, 2) := by decide +kernel
theorem dX8_lays_3 : decode cX8_lays 3 = .ok (.iload 4, 2) := by decide +kernel
theorem dX8_lays_5 : decode cX8_lays 5 = .ok (.aload_n 0, 1) := by decide +kernel
theorem dX8_lays_6 : decode cX8_lays 6 = .ok (.getfield 154, 3) := by decide +kernel
theorem dX8_lays_9 : decode cX8_lays 9 = .ok (.if_icmp .ge 31, 3) := by decide +kernel
theorem dX8_lays_12 : decode cX8_lays 12 = .ok (.aload_n 0, 1) := by decide +kernel
theorem dX8_lays_13 : decode cX8_lays 13 = .ok (.getfield 98, 3) := by decide +kernel
theorem dX8_lays_16 : decode cX8_lays 16 = .ok (.bipush 10, 2) := by decide +kernel
theorem dX8_lays_18 : decode cX8_lays 18 = .ok (.aload_n 0, 1) := by decide +kernel
theorem dX8_lays_19 : decode cX8_lays 19 = .ok (.getfield 196, 3) := by decide +kernel
theorem dX8_lays_22 : decode cX8_lays 22 = .ok (.imul, 1) := by decide +kernel
theorem dX8_lays_23 : decode cX8_lays 23 = .ok (.iload 4, 2) := by decide +kernel
theorem dX8_lays_25 : decode cX8_lays 25 = .ok (.iadd, 1) := by decide +kernel
theorem dX8_lays_26 : decode cX8_lays 26 = .ok (.aload_n 0, 1) := by decide +kernel
theorem dX8_lays_27 : decode cX8_lays 27 = .ok (.getfield 110, 3) := by decide +kernel
theorem dX8_lays_30 : decode cX8_lays 30 = .ok (.iload 4, 2) := by decide +kernel
theorem dX8_lays_32 : decode cX8_lays 32 = .ok (.iaload, 1) := by decide +kernel
theorem dX8_lays_33 : decode cX8_lays 33 = .ok (.iastore, 1) := by decide +kernel
theorem dX8_lays_34 : decode cX8_lays 34 = .ok (.iinc 4 1, 3) := by decide +kernel
theorem dX8_lays_37 : decode cX8_lays 37 = .ok (.goto (-34), 3) := by decide +kernel
theorem dX8_lays_40 : decode cX8_lays 40 = .ok (.aload_n 0, 1) := by decide +kernel
theorem dX8_lays_41 : decode cX8_lays 41 = .ok (.getfield 101, 3) := by decide +kernel
theorem dX8_lays_44 : decode cX8_lays 44 = .ok (.aload_n 0, 1) := by decide +kernel
theorem dX8_lays_45 : decode cX8_lays 45 = .ok (.getfield 196, 3) := by decide +kernel
theorem dX8_lays_48 : decode cX8_lays 48 = .ok (.iload_n 1, 1) := by decide +kernel
theorem dX8_lays_49 : decode cX8_lays 49 = .ok (.iastore, 1) := by decide +kernel
theorem dX8_lays_50 : decode cX8_lays 50 = .ok (.aload_n 0, 1) := by decide +kernel
theorem dX8_lays_51 : decode cX8_lays 51 = .ok (.getfield 104, 3) := by decide +kernel
theorem dX8_lays_54 : decode cX8_lays 54 = .ok (.aload_n 0, 1) := by decide +kernel
theorem dX8_lays_55 : decode cX8_lays 55 = .ok (.getfield 196, 3) := by decide +kernel
theorem dX8_lays_58 : decode cX8_lays 58 = .ok (.iload_n 2, 1) := by decide +kernel
theorem dX8_lays_59 : decode cX8_lays 59 = .ok (.iastore, 1) := by decide +kernel
theorem dX8_lays_60 : decode cX8_lays 60 = .ok (.aload_n 0, 1) := by decide +kernel
theorem dX8_lays_61 : decode cX8_lays 61 = .ok (.getfield 107, 3) := by decide +kernel
theorem dX8_lays_64 : decode cX8_lays 64 = .ok (.aload_n 0, 1) := by decide +kernel
theorem dX8_lays_65 : decode cX8_lays 65 = .ok (.getfield 196, 3) := by decide +kernel
theorem dX8_lays_68 : decode cX8_lays 68 = .ok (.iload_n 3, 1) := by decide +kernel
theorem dX8_lays_69 : decode cX8_lays 69 = .ok (.iastore, 1) := by decide +kernel
theorem dX8_lays_70 : decode cX8_lays 70 = .ok (.aload_n 0, 1) := by decide +kernel
theorem dX8_lays_71 : decode cX8_lays 71 = .ok (.getfield 116, 3) := by decide +kernel
theorem dX8_lays_74 : decode cX8_lays 74 = .ok (.aload_n 0, 1) := by decide +kernel
theorem dX8_lays_75 : decode cX8_lays 75 = .ok (.getfield 196, 3) := by decide +kernel
theorem dX8_lays_78 : decode cX8_lays 78 = .ok (.aload_n 0, 1) := by decide +kernel
theorem dX8_lays_79 : decode cX8_lays 79 = .ok (.getfield 113, 3) := by decide +kernel
theorem dX8_lays_82 : decode cX8_lays 82 = .ok (.iload_n 1, 1) := by decide +kernel
theorem dX8_lays_83 : decode cX8_lays 83 = .ok (.sipush 8191, 3) := by decide +kernel
theorem dX8_lays_86 : decode cX8_lays 86 = .ok (.iand, 1) := by decide +kernel
theorem dX8_lays_87 : decode cX8_lays 87 = .ok (.iaload, 1) := by decide +kernel
theorem dX8_lays_88 : decode cX8_lays 88 = .ok (.iastore, 1) := by decide +kernel
theorem dX8_lays_89 : decode cX8_lays 89 = .ok (.aload_n 0, 1) := by decide +kernel
theorem dX8_lays_90 : decode cX8_lays 90 = .ok (.getfield 113, 3) := by decide +kernel
theorem dX8_lays_93 : decode cX8_lays 93 = .ok (.iload_n 1, 1) := by decide +kernel
theorem dX8_lays_94 : decode cX8_lays 94 = .ok (.sipush 8191, 3) := by decide +kernel
theorem dX8_lays_97 : decode cX8_lays 97 = .ok (.iand, 1) := by decide +kernel
theorem dX8_lays_98 : decode cX8_lays 98 = .ok (.aload_n 0, 1) := by decide +kernel
theorem dX8_lays_99 : decode cX8_lays 99 = .ok (.getfield 196, 3) := by decide +kernel
theorem dX8_lays_102 : decode cX8_lays 102 = .ok (.iastore, 1) := by decide +kernel
theorem dX8_lays_103 : decode cX8_lays 103 = .ok (.aload_n 0, 1) := by decide +kernel
theorem dX8_lays_104 : decode cX8_lays 104 = .ok (.dup, 1) := by decide +kernel
theorem dX8_lays_105 : decode cX8_lays 105 = .ok (.getfield 196, 3) := by decide +kernel
theorem dX8_lays_108 : decode cX8_lays 108 = .ok (.iconst 1, 1) := by decide +kernel
theorem dX8_lays_109 : decode cX8_lays 109 = .ok (.iadd, 1) := by decide +kernel
theorem dX8_lays_110 : decode cX8_lays 110 = .ok (.putfield 196, 3) := by decide +kernel
theorem dX8_lays_113 : decode cX8_lays 113 = .ok (.return_, 1) := by decide +kernel
theorem dX8_told_0 : decode cX8_told 0 = .ok (.iconst 1, 1) := by decide +kernel
theorem dX8_told_1 : decode cX8_told 1 = .ok (.istore_n 3, 1) := by decide +kernel
theorem dX8_told_2 : decode cX8_told 2 = .ok (.iload_n 1, 1) := by decide +kernel
theorem dX8_told_3 : decode cX8_told 3 = .ok (.istore 4, 2) := by decide +kernel
theorem dX8_told_5 : decode cX8_told 5 = .ok (.aload_n 0, 1) := by decide +kernel
theorem dX8_told_6 : decode cX8_told 6 = .ok (.getfield 104, 3) := by decide +kernel
theorem dX8_told_9 : decode cX8_told 9 = .ok (.iload 4, 2) := by decide +kernel
theorem dX8_told_11 : decode cX8_told 11 = .ok (.iaload, 1) := by decide +kernel
theorem dX8_told_12 : decode cX8_told 12 = .ok (.ifCond .lt 18, 3) := by decide +kernel
theorem dX8_told_15 : decode cX8_told 15 = .ok (.iinc 3 1, 3) := by decide +kernel
theorem dX8_told_18 : decode cX8_told 18 = .ok (.aload_n 0, 1) := by decide +kernel
theorem dX8_told_19 : decode cX8_told 19 = .ok (.getfield 104, 3) := by decide +kernel
theorem dX8_told_22 : decode cX8_told 22 = .ok (.iload 4, 2) := by decide +kernel
theorem dX8_told_24 : decode cX8_told 24 = .ok (.iaload, 1) := by decide +kernel
theorem dX8_told_25 : decode cX8_told 25 = .ok (.istore 4, 2) := by decide +kernel
theorem dX8_told_27 : decode cX8_told 27 = .ok (.goto (-22), 3) := by decide +kernel
theorem dX8_told_30 : decode cX8_told 30 = .ok (.aload_n 0, 1) := by decide +kernel
theorem dX8_told_31 : decode cX8_told 31 = .ok (.iload_n 3, 1) := by decide +kernel
theorem dX8_told_32 : decode cX8_told 32 = .ok (.putfield 199, 3) := by decide +kernel
theorem dX8_told_35 : decode cX8_told 35 = .ok (.aload_n 0, 1) := by decide +kernel
theorem dX8_told_36 : decode cX8_told 36 = .ok (.getfield 82, 3) := by decide +kernel
theorem dX8_told_39 : decode cX8_told 39 = .ok (.iload_n 3, 1) := by decide +kernel
theorem dX8_told_40 : decode cX8_told 40 = .ok (.iconst 1, 1) := by decide +kernel
theorem dX8_told_41 : decode cX8_told 41 = .ok (.isub, 1) := by decide +kernel
theorem dX8_told_42 : decode cX8_told 42 = .ok (.iload_n 2, 1) := by decide +kernel
theorem dX8_told_43 : decode cX8_told 43 = .ok (.iastore, 1) := by decide +kernel
theorem dX8_told_44 : decode cX8_told 44 = .ok (.iload_n 3, 1) := by decide +kernel
theorem dX8_told_45 : decode cX8_told 45 = .ok (.iconst 1, 1) := by decide +kernel
theorem dX8_told_46 : decode cX8_told 46 = .ok (.isub, 1) := by decide +kernel
theorem dX8_told_47 : decode cX8_told 47 = .ok (.istore 4, 2) := by decide +kernel
theorem dX8_told_49 : decode cX8_told 49 = .ok (.iload_n 1, 1) := by decide +kernel
theorem dX8_told_50 : decode cX8_told 50 = .ok (.istore 5, 2) := by decide +kernel
theorem dX8_told_52 : decode cX8_told 52 = .ok (.aload_n 0, 1) := by decide +kernel
theorem dX8_told_53 : decode cX8_told 53 = .ok (.getfield 104, 3) := by decide +kernel
theorem dX8_told_56 : decode cX8_told 56 = .ok (.iload 5, 2) := by decide +kernel
theorem dX8_told_58 : decode cX8_told 58 = .ok (.iaload, 1) := by decide +kernel
theorem dX8_told_59 : decode cX8_told 59 = .ok (.ifCond .lt 32, 3) := by decide +kernel
theorem dX8_told_62 : decode cX8_told 62 = .ok (.iinc 4 (-1), 3) := by decide +kernel
theorem dX8_told_65 : decode cX8_told 65 = .ok (.aload_n 0, 1) := by decide +kernel
theorem dX8_told_66 : decode cX8_told 66 = .ok (.getfield 82, 3) := by decide +kernel
theorem dX8_told_69 : decode cX8_told 69 = .ok (.iload 4, 2) := by decide +kernel
theorem dX8_told_71 : decode cX8_told 71 = .ok (.aload_n 0, 1) := by decide +kernel
theorem dX8_told_72 : decode cX8_told 72 = .ok (.getfield 107, 3) := by decide +kernel
theorem dX8_told_75 : decode cX8_told 75 = .ok (.iload 5, 2) := by decide +kernel
theorem dX8_told_77 : decode cX8_told 77 = .ok (.iaload, 1) := by decide +kernel
theorem dX8_told_78 : decode cX8_told 78 = .ok (.iastore, 1) := by decide +kernel
theorem dX8_told_79 : decode cX8_told 79 = .ok (.aload_n 0, 1) := by decide +kernel
theorem dX8_told_80 : decode cX8_told 80 = .ok (.getfield 104, 3) := by decide +kernel
theorem dX8_told_83 : decode cX8_told 83 = .ok (.iload 5, 2) := by decide +kernel
theorem dX8_told_85 : decode cX8_told 85 = .ok (.iaload, 1) := by decide +kernel
theorem dX8_told_86 : decode cX8_told 86 = .ok (.istore 5, 2) := by decide +kernel
theorem dX8_told_88 : decode cX8_told 88 = .ok (.goto (-36), 3) := by decide +kernel
theorem dX8_told_91 : decode cX8_told 91 = .ok (.iload_n 3, 1) := by decide +kernel
theorem dX8_told_92 : decode cX8_told 92 = .ok (.ireturn, 1) := by decide +kernel
theorem dX8_fewest_0 : decode cX8_fewest 0 = .ok (.aload_n 0, 1) := by decide +kernel
theorem dX8_fewest_1 : decode cX8_fewest 1 = .ok (.iconst 0, 1) := by decide +kernel
theorem dX8_fewest_2 : decode cX8_fewest 2 = .ok (.putfield 137, 3) := by decide +kernel
theorem dX8_fewest_5 : decode cX8_fewest 5 = .ok (.aload_n 0, 1) := by decide +kernel
theorem dX8_fewest_6 : decode cX8_fewest 6 = .ok (.iconst 0, 1) := by decide +kernel
theorem dX8_fewest_7 : decode cX8_fewest 7 = .ok (.putfield 196, 3) := by decide +kernel
theorem dX8_fewest_10 : decode cX8_fewest 10 = .ok (.iconst 0, 1) := by decide +kernel
theorem dX8_fewest_11 : decode cX8_fewest 11 = .ok (.istore_n 1, 1) := by decide +kernel
theorem dX8_fewest_12 : decode cX8_fewest 12 = .ok (.iload_n 1, 1) := by decide +kernel
theorem dX8_fewest_13 : decode cX8_fewest 13 = .ok (.iconst 1, 1) := by decide +kernel
theorem dX8_fewest_14 : decode cX8_fewest 14 = .ok (.aload_n 0, 1) := by decide +kernel
theorem dX8_fewest_15 : decode cX8_fewest 15 = .ok (.getfield 154, 3) := by decide +kernel
theorem dX8_fewest_18 : decode cX8_fewest 18 = .ok (.ishl, 1) := by decide +kernel
theorem dX8_fewest_19 : decode cX8_fewest 19 = .ok (.if_icmp .ge 20, 3) := by decide +kernel
theorem dX8_fewest_22 : decode cX8_fewest 22 = .ok (.aload_n 0, 1) := by decide +kernel
theorem dX8_fewest_23 : decode cX8_fewest 23 = .ok (.getfield 119, 3) := by decide +kernel
theorem dX8_fewest_26 : decode cX8_fewest 26 = .ok (.iload_n 1, 1) := by decide +kernel
theorem dX8_fewest_27 : decode cX8_fewest 27 = .ok (.aload_n 0, 1) := by decide +kernel
theorem dX8_fewest_28 : decode cX8_fewest 28 = .ok (.iload_n 1, 1) := by decide +kernel
theorem dX8_fewest_29 : decode cX8_fewest 29 = .ok (.invokevirtual 193, 3) := by decide +kernel
theorem dX8_fewest_32 : decode cX8_fewest 32 = .ok (.bastore, 1) := by decide +kernel
theorem dX8_fewest_33 : decode cX8_fewest 33 = .ok (.iinc 1 1, 3) := by decide +kernel
theorem dX8_fewest_36 : decode cX8_fewest 36 = .ok (.goto (-24), 3) := by decide +kernel
theorem dX8_fewest_39 : decode cX8_fewest 39 = .ok (.iconst 0, 1) := by decide +kernel
theorem dX8_fewest_40 : decode cX8_fewest 40 = .ok (.istore_n 1, 1) := by decide +kernel
theorem dX8_fewest_41 : decode cX8_fewest 41 = .ok (.iload_n 1, 1) := by decide +kernel
theorem dX8_fewest_42 : decode cX8_fewest 42 = .ok (.aload_n 0, 1) := by decide +kernel
theorem dX8_fewest_43 : decode cX8_fewest 43 = .ok (.getfield 154, 3) := by decide +kernel
theorem dX8_fewest_46 : decode cX8_fewest 46 = .ok (.if_icmp .ge 31, 3) := by decide +kernel
theorem dX8_fewest_49 : decode cX8_fewest 49 = .ok (.aload_n 0, 1) := by decide +kernel
theorem dX8_fewest_50 : decode cX8_fewest 50 = .ok (.getfield 54, 3) := by decide +kernel
theorem dX8_fewest_53 : decode cX8_fewest 53 = .ok (.iload_n 1, 1) := by decide +kernel
theorem dX8_fewest_54 : decode cX8_fewest 54 = .ok (.iaload, 1) := by decide +kernel
theorem dX8_fewest_55 : decode cX8_fewest 55 = .ok (.ifCond .le 16, 3) := by decide +kernel
theorem dX8_fewest_58 : decode cX8_fewest 58 = .ok (.aload_n 0, 1) := by decide +kernel
theorem dX8_fewest_59 : decode cX8_fewest 59 = .ok (.getfield 119, 3) := by decide +kernel
theorem dX8_fewest_62 : decode cX8_fewest 62 = .ok (.iconst 1, 1) := by decide +kernel
theorem dX8_fewest_63 : decode cX8_fewest 63 = .ok (.iload_n 1, 1) := by decide +kernel
theorem dX8_fewest_64 : decode cX8_fewest 64 = .ok (.ishl, 1) := by decide +kernel
theorem dX8_fewest_65 : decode cX8_fewest 65 = .ok (.baload, 1) := by decide +kernel
theorem dX8_fewest_66 : decode cX8_fewest 66 = .ok (.ifCond .ne 5, 3) := by decide +kernel
theorem dX8_fewest_69 : decode cX8_fewest 69 = .ok (.iconst (-1), 1) := by decide +kernel
theorem dX8_fewest_70 : decode cX8_fewest 70 = .ok (.ireturn, 1) := by decide +kernel
theorem dX8_fewest_71 : decode cX8_fewest 71 = .ok (.iinc 1 1, 3) := by decide +kernel
theorem dX8_fewest_74 : decode cX8_fewest 74 = .ok (.goto (-33), 3) := by decide +kernel
theorem dX8_fewest_77 : decode cX8_fewest 77 = .ok (.aload_n 0, 1) := by decide +kernel
theorem dX8_fewest_78 : decode cX8_fewest 78 = .ok (.aload_n 0, 1) := by decide +kernel
theorem dX8_fewest_79 : decode cX8_fewest 79 = .ok (.getfield 54, 3) := by decide +kernel
theorem dX8_fewest_82 : decode cX8_fewest 82 = .ok (.invokevirtual 181, 3) := by decide +kernel
theorem dX8_fewest_85 : decode cX8_fewest 85 = .ok (.ifCond .ne 10, 3) := by decide +kernel
theorem dX8_fewest_88 : decode cX8_fewest 88 = .ok (.aload_n 0, 1) := by decide +kernel
theorem dX8_fewest_89 : decode cX8_fewest 89 = .ok (.iconst 0, 1) := by decide +kernel
theorem dX8_fewest_90 : decode cX8_fewest 90 = .ok (.putfield 199, 3) := by decide +kernel
theorem dX8_fewest_93 : decode cX8_fewest 93 = .ok (.iconst 0, 1) := by decide +kernel
theorem dX8_fewest_94 : decode cX8_fewest 94 = .ok (.ireturn, 1) := by decide +kernel
theorem dX8_fewest_95 : decode cX8_fewest 95 = .ok (.iconst 0, 1) := by decide +kernel
theorem dX8_fewest_96 : decode cX8_fewest 96 = .ok (.istore_n 1, 1) := by decide +kernel
theorem dX8_fewest_97 : decode cX8_fewest 97 = .ok (.iload_n 1, 1) := by decide +kernel
theorem dX8_fewest_98 : decode cX8_fewest 98 = .ok (.aload_n 0, 1) := by decide +kernel
theorem dX8_fewest_99 : decode cX8_fewest 99 = .ok (.getfield 113, 3) := by decide +kernel
theorem dX8_fewest_102 : decode cX8_fewest 102 = .ok (.arraylength, 1) := by decide +kernel
theorem dX8_fewest_103 : decode cX8_fewest 103 = .ok (.if_icmp .ge 16, 3) := by decide +kernel
theorem dX8_fewest_106 : decode cX8_fewest 106 = .ok (.aload_n 0, 1) := by decide +kernel
theorem dX8_fewest_107 : decode cX8_fewest 107 = .ok (.getfield 113, 3) := by decide +kernel
theorem dX8_fewest_110 : decode cX8_fewest 110 = .ok (.iload_n 1, 1) := by decide +kernel
theorem dX8_fewest_111 : decode cX8_fewest 111 = .ok (.iconst (-1), 1) := by decide +kernel
theorem dX8_fewest_112 : decode cX8_fewest 112 = .ok (.iastore, 1) := by decide +kernel
theorem dX8_fewest_113 : decode cX8_fewest 113 = .ok (.iinc 1 1, 3) := by decide +kernel
theorem dX8_fewest_116 : decode cX8_fewest 116 = .ok (.goto (-19), 3) := by decide +kernel
theorem dX8_fewest_119 : decode cX8_fewest 119 = .ok (.iconst 0, 1) := by decide +kernel
theorem dX8_fewest_120 : decode cX8_fewest 120 = .ok (.istore_n 1, 1) := by decide +kernel
theorem dX8_fewest_121 : decode cX8_fewest 121 = .ok (.iload_n 1, 1) := by decide +kernel
theorem dX8_fewest_122 : decode cX8_fewest 122 = .ok (.aload_n 0, 1) := by decide +kernel
theorem dX8_fewest_123 : decode cX8_fewest 123 = .ok (.getfield 154, 3) := by decide +kernel
theorem dX8_fewest_126 : decode cX8_fewest 126 = .ok (.if_icmp .ge 21, 3) := by decide +kernel
theorem dX8_fewest_129 : decode cX8_fewest 129 = .ok (.aload_n 0, 1) := by decide +kernel
theorem dX8_fewest_130 : decode cX8_fewest 130 = .ok (.getfield 110, 3) := by decide +kernel
theorem dX8_fewest_133 : decode cX8_fewest 133 = .ok (.iload_n 1, 1) := by decide +kernel
theorem dX8_fewest_134 : decode cX8_fewest 134 = .ok (.aload_n 0, 1) := by decide +kernel
theorem dX8_fewest_135 : decode cX8_fewest 135 = .ok (.getfield 54, 3) := by decide +kernel
theorem dX8_fewest_138 : decode cX8_fewest 138 = .ok (.iload_n 1, 1) := by decide +kernel
theorem dX8_fewest_139 : decode cX8_fewest 139 = .ok (.iaload, 1) := by decide +kernel
theorem dX8_fewest_140 : decode cX8_fewest 140 = .ok (.iastore, 1) := by decide +kernel
theorem dX8_fewest_141 : decode cX8_fewest 141 = .ok (.iinc 1 1, 3) := by decide +kernel
theorem dX8_fewest_144 : decode cX8_fewest 144 = .ok (.goto (-23), 3) := by decide +kernel
theorem dX8_fewest_147 : decode cX8_fewest 147 = .ok (.aload_n 0, 1) := by decide +kernel
theorem dX8_fewest_148 : decode cX8_fewest 148 = .ok (.aload_n 0, 1) := by decide +kernel
theorem dX8_fewest_149 : decode cX8_fewest 149 = .ok (.invokevirtual 202, 3) := by decide +kernel
theorem dX8_fewest_152 : decode cX8_fewest 152 = .ok (.iconst (-1), 1) := by decide +kernel
theorem dX8_fewest_153 : decode cX8_fewest 153 = .ok (.iconst (-1), 1) := by decide +kernel
theorem dX8_fewest_154 : decode cX8_fewest 154 = .ok (.invokevirtual 206, 3) := by decide +kernel
theorem dX8_fewest_157 : decode cX8_fewest 157 = .ok (.iconst 0, 1) := by decide +kernel
theorem dX8_fewest_158 : decode cX8_fewest 158 = .ok (.istore_n 1, 1) := by decide +kernel
theorem dX8_fewest_159 : decode cX8_fewest 159 = .ok (.iload_n 1, 1) := by decide +kernel
theorem dX8_fewest_160 : decode cX8_fewest 160 = .ok (.aload_n 0, 1) := by decide +kernel
theorem dX8_fewest_161 : decode cX8_fewest 161 = .ok (.getfield 196, 3) := by decide +kernel
theorem dX8_fewest_164 : decode cX8_fewest 164 = .ok (.if_icmp .ge 191, 3) := by decide +kernel
theorem dX8_fewest_167 : decode cX8_fewest 167 = .ok (.iconst 0, 1) := by decide +kernel
theorem dX8_fewest_168 : decode cX8_fewest 168 = .ok (.istore_n 2, 1) := by decide +kernel
theorem dX8_fewest_169 : decode cX8_fewest 169 = .ok (.iconst 0, 1) := by decide +kernel
theorem dX8_fewest_170 : decode cX8_fewest 170 = .ok (.istore_n 3, 1) := by decide +kernel
theorem dX8_fewest_171 : decode cX8_fewest 171 = .ok (.iload_n 3, 1) := by decide +kernel
theorem dX8_fewest_172 : decode cX8_fewest 172 = .ok (.aload_n 0, 1) := by decide +kernel
theorem dX8_fewest_173 : decode cX8_fewest 173 = .ok (.getfield 154, 3) := by decide +kernel
theorem dX8_fewest_176 : decode cX8_fewest 176 = .ok (.if_icmp .ge 33, 3) := by decide +kernel
theorem dX8_fewest_179 : decode cX8_fewest 179 = .ok (.iload_n 2, 1) := by decide +kernel
theorem dX8_fewest_180 : decode cX8_fewest 180 = .ok (.aload_n 0, 1) := by decide +kernel
theorem dX8_fewest_181 : decode cX8_fewest 181 = .ok (.getfield 98, 3) := by decide +kernel
theorem dX8_fewest_184 : decode cX8_fewest 184 = .ok (.bipush 10, 2) := by decide +kernel
theorem dX8_fewest_186 : decode cX8_fewest 186 = .ok (.iload_n 1, 1) := by decide +kernel
theorem dX8_fewest_187 : decode cX8_fewest 187 = .ok (.imul, 1) := by decide +kernel
theorem dX8_fewest_188 : decode cX8_fewest 188 = .ok (.iload_n 3, 1) := by decide +kernel
theorem dX8_fewest_189 : decode cX8_fewest 189 = .ok (.iadd, 1) := by decide +kernel
theorem dX8_fewest_190 : decode cX8_fewest 190 = .ok (.iaload, 1) := by decide +kernel
theorem dX8_fewest_191 : decode cX8_fewest 191 = .ok (.ifCond .le 9, 3) := by decide +kernel
theorem dX8_fewest_194 : decode cX8_fewest 194 = .ok (.iconst 1, 1) := by decide +kernel
theorem dX8_fewest_195 : decode cX8_fewest 195 = .ok (.iload_n 3, 1) := by decide +kernel
theorem dX8_fewest_196 : decode cX8_fewest 196 = .ok (.ishl, 1) := by decide +kernel
theorem dX8_fewest_197 : decode cX8_fewest 197 = .ok (.goto 4, 3) := by decide +kernel
theorem dX8_fewest_200 : decode cX8_fewest 200 = .ok (.iconst 0, 1) := by decide +kernel
theorem dX8_fewest_201 : decode cX8_fewest 201 = .ok (.ior, 1) := by decide +kernel
theorem dX8_fewest_202 : decode cX8_fewest 202 = .ok (.istore_n 2, 1) := by decide +kernel
theorem dX8_fewest_203 : decode cX8_fewest 203 = .ok (.iinc 3 1, 3) := by decide +kernel
theorem dX8_fewest_206 : decode cX8_fewest 206 = .ok (.goto (-35), 3) := by decide +kernel
theorem dX8_fewest_209 : decode cX8_fewest 209 = .ok (.iconst 1, 1) := by decide +kernel
theorem dX8_fewest_210 : decode cX8_fewest 210 = .ok (.istore_n 3, 1) := by decide +kernel
theorem dX8_fewest_211 : decode cX8_fewest 211 = .ok (.iload_n 3, 1) := by decide +kernel
theorem dX8_fewest_212 : decode cX8_fewest 212 = .ok (.iconst 1, 1) := by decide +kernel
theorem dX8_fewest_213 : decode cX8_fewest 213 = .ok (.aload_n 0, 1) := by decide +kernel
theorem dX8_fewest_214 : decode cX8_fewest 214 = .ok (.getfield 154, 3) := by decide +kernel
theorem dX8_fewest_217 : decode cX8_fewest 217 = .ok (.ishl, 1) := by decide +kernel
theorem dX8_fewest_218 : decode cX8_fewest 218 = .ok (.if_icmp .ge 131, 3) := by decide +kernel
theorem dX8_fewest_221 : decode cX8_fewest 221 = .ok (.aload_n 0, 1) := by decide +kernel
theorem dX8_fewest_222 : decode cX8_fewest 222 = .ok (.iload_n 3, 1) := by decide +kernel
theorem dX8_fewest_223 : decode cX8_fewest 223 = .ok (.iload_n 2, 1) := by decide +kernel
theorem dX8_fewest_224 : decode cX8_fewest 224 = .ok (.invokevirtual 210, 3) := by decide +kernel
theorem dX8_fewest_227 : decode cX8_fewest 227 = .ok (.ifCond .ne 6, 3) := by decide +kernel
theorem dX8_fewest_230 : decode cX8_fewest 230 = .ok (.goto 113, 3) := by decide +kernel
theorem dX8_fewest_233 : decode cX8_fewest 233 = .ok (.iconst 0, 1) := by decide +kernel
theorem dX8_fewest_234 : decode cX8_fewest 234 = .ok (.istore 4, 2) := by decide +kernel
theorem dX8_fewest_236 : decode cX8_fewest 236 = .ok (.iconst 0, 1) := by decide +kernel
theorem dX8_fewest_237 : decode cX8_fewest 237 = .ok (.istore 5, 2) := by decide +kernel
theorem dX8_fewest_239 : decode cX8_fewest 239 = .ok (.iload 5, 2) := by decide +kernel
theorem dX8_fewest_241 : decode cX8_fewest 241 = .ok (.aload_n 0, 1) := by decide +kernel
theorem dX8_fewest_242 : decode cX8_fewest 242 = .ok (.getfield 154, 3) := by decide +kernel
theorem dX8_fewest_245 : decode cX8_fewest 245 = .ok (.if_icmp .ge 47, 3) := by decide +kernel
theorem dX8_fewest_248 : decode cX8_fewest 248 = .ok (.aload_n 0, 1) := by decide +kernel
theorem dX8_fewest_249 : decode cX8_fewest 249 = .ok (.getfield 110, 3) := by decide +kernel
theorem dX8_fewest_252 : decode cX8_fewest 252 = .ok (.iload 5, 2) := by decide +kernel
theorem dX8_fewest_254 : decode cX8_fewest 254 = .ok (.aload_n 0, 1) := by decide +kernel
theorem dX8_fewest_255 : decode cX8_fewest 255 = .ok (.getfield 98, 3) := by decide +kernel
theorem dX8_fewest_258 : decode cX8_fewest 258 = .ok (.bipush 10, 2) := by decide +kernel
theorem dX8_fewest_260 : decode cX8_fewest 260 = .ok (.iload_n 1, 1) := by decide +kernel
theorem dX8_fewest_261 : decode cX8_fewest 261 = .ok (.imul, 1) := by decide +kernel
theorem dX8_fewest_262 : decode cX8_fewest 262 = .ok (.iload 5, 2) := by decide +kernel
theorem dX8_fewest_264 : decode cX8_fewest 264 = .ok (.iadd, 1) := by decide +kernel
theorem dX8_fewest_265 : decode cX8_fewest 265 = .ok (.iaload, 1) := by decide +kernel
theorem dX8_fewest_266 : decode cX8_fewest 266 = .ok (.iload_n 3, 1) := by decide +kernel
theorem dX8_fewest_267 : decode cX8_fewest 267 = .ok (.iload 5, 2) := by decide +kernel
theorem dX8_fewest_269 : decode cX8_fewest 269 = .ok (.ishr, 1) := by decide +kernel
theorem dX8_fewest_270 : decode cX8_fewest 270 = .ok (.iconst 1, 1) := by decide +kernel
theorem dX8_fewest_271 : decode cX8_fewest 271 = .ok (.iand, 1) := by decide +kernel
theorem dX8_fewest_272 : decode cX8_fewest 272 = .ok (.isub, 1) := by decide +kernel
theorem dX8_fewest_273 : decode cX8_fewest 273 = .ok (.iastore, 1) := by decide +kernel
theorem dX8_fewest_274 : decode cX8_fewest 274 = .ok (.iload 4, 2) := by decide +kernel
theorem dX8_fewest_276 : decode cX8_fewest 276 = .ok (.aload_n 0, 1) := by decide +kernel
theorem dX8_fewest_277 : decode cX8_fewest 277 = .ok (.getfield 110, 3) := by decide +kernel
theorem dX8_fewest_280 : decode cX8_fewest 280 = .ok (.iload 5, 2) := by decide +kernel
theorem dX8_fewest_282 : decode cX8_fewest 282 = .ok (.iaload, 1) := by decide +kernel
theorem dX8_fewest_283 : decode cX8_fewest 283 = .ok (.iadd, 1) := by decide +kernel
theorem dX8_fewest_284 : decode cX8_fewest 284 = .ok (.istore 4, 2) := by decide +kernel
theorem dX8_fewest_286 : decode cX8_fewest 286 = .ok (.iinc 5 1, 3) := by decide +kernel
theorem dX8_fewest_289 : decode cX8_fewest 289 = .ok (.goto (-50), 3) := by decide +kernel
theorem dX8_fewest_292 : decode cX8_fewest 292 = .ok (.iload 4, 2) := by decide +kernel
theorem dX8_fewest_294 : decode cX8_fewest 294 = .ok (.ifCond .ne 10, 3) := by decide +kernel
theorem dX8_fewest_297 : decode cX8_fewest 297 = .ok (.aload_n 0, 1) := by decide +kernel
theorem dX8_fewest_298 : decode cX8_fewest 298 = .ok (.iload_n 1, 1) := by decide +kernel
theorem dX8_fewest_299 : decode cX8_fewest 299 = .ok (.iload_n 3, 1) := by decide +kernel
theorem dX8_fewest_300 : decode cX8_fewest 300 = .ok (.invokevirtual 214, 3) := by decide +kernel
theorem dX8_fewest_303 : decode cX8_fewest 303 = .ok (.ireturn, 1) := by decide +kernel
theorem dX8_fewest_304 : decode cX8_fewest 304 = .ok (.aload_n 0, 1) := by decide +kernel
theorem dX8_fewest_305 : decode cX8_fewest 305 = .ok (.invokevirtual 202, 3) := by decide +kernel
theorem dX8_fewest_308 : decode cX8_fewest 308 = .ok (.istore 5, 2) := by decide +kernel
theorem dX8_fewest_310 : decode cX8_fewest 310 = .ok (.aload_n 0, 1) := by decide +kernel
theorem dX8_fewest_311 : decode cX8_fewest 311 = .ok (.iload 5, 2) := by decide +kernel
theorem dX8_fewest_313 : decode cX8_fewest 313 = .ok (.invokevirtual 218, 3) := by decide +kernel
theorem dX8_fewest_316 : decode cX8_fewest 316 = .ok (.ifCond .ne 6, 3) := by decide +kernel
theorem dX8_fewest_319 : decode cX8_fewest 319 = .ok (.goto 24, 3) := by decide +kernel
theorem dX8_fewest_322 : decode cX8_fewest 322 = .ok (.aload_n 0, 1) := by decide +kernel
theorem dX8_fewest_323 : decode cX8_fewest 323 = .ok (.getfield 196, 3) := by decide +kernel
theorem dX8_fewest_326 : decode cX8_fewest 326 = .ok (.sipush 5000, 3) := by decide +kernel
theorem dX8_fewest_329 : decode cX8_fewest 329 = .ok (.if_icmp .ne 6, 3) := by decide +kernel
theorem dX8_fewest_332 : decode cX8_fewest 332 = .ok (.bipush (-4), 2) := by decide +kernel
theorem dX8_fewest_334 : decode cX8_fewest 334 = .ok (.ireturn, 1) := by decide +kernel
theorem dX8_fewest_335 : decode cX8_fewest 335 = .ok (.aload_n 0, 1) := by decide +kernel
theorem dX8_fewest_336 : decode cX8_fewest 336 = .ok (.iload 5, 2) := by decide +kernel
theorem dX8_fewest_338 : decode cX8_fewest 338 = .ok (.iload_n 1, 1) := by decide +kernel
theorem dX8_fewest_339 : decode cX8_fewest 339 = .ok (.iload_n 3, 1) := by decide +kernel
theorem dX8_fewest_340 : decode cX8_fewest 340 = .ok (.invokevirtual 206, 3) := by decide +kernel
theorem dX8_fewest_343 : decode cX8_fewest 343 = .ok (.iinc 3 1, 3) := by decide +kernel
theorem dX8_fewest_346 : decode cX8_fewest 346 = .ok (.goto (-135), 3) := by decide +kernel
theorem dX8_fewest_349 : decode cX8_fewest 349 = .ok (.iinc 1 1, 3) := by decide +kernel
theorem dX8_fewest_352 : decode cX8_fewest 352 = .ok (.goto (-193), 3) := by decide +kernel
theorem dX8_fewest_355 : decode cX8_fewest 355 = .ok (.iconst (-1), 1) := by decide +kernel
theorem dX8_fewest_356 : decode cX8_fewest 356 = .ok (.ireturn, 1) := by decide +kernel
theorem dX8_frame_0 : decode cX8_frame 0 = .ok (.aload_n 0, 1) := by decide +kernel
theorem dX8_frame_1 : decode cX8_frame 1 = .ok (.iconst 0, 1) := by decide +kernel
theorem dX8_frame_2 : decode cX8_frame 2 = .ok (.putfield 137, 3) := by decide +kernel
theorem dX8_frame_5 : decode cX8_frame 5 = .ok (.iload_n 1, 1) := by decide +kernel
theorem dX8_frame_6 : decode cX8_frame 6 = .ok (.i2l, 1) := by decide +kernel
theorem dX8_frame_7 : decode cX8_frame 7 = .ok (.lconst 0, 1) := by decide +kernel
theorem dX8_frame_8 : decode cX8_frame 8 = .ok (.aload_n 0, 1) := by decide +kernel
theorem dX8_frame_9 : decode cX8_frame 9 = .ok (.getfield 199, 3) := by decide +kernel
theorem dX8_frame_12 : decode cX8_frame 12 = .ok (.iconst 1, 1) := by decide +kernel
theorem dX8_frame_13 : decode cX8_frame 13 = .ok (.isub, 1) := by decide +kernel
theorem dX8_frame_14 : decode cX8_frame 14 = .ok (.i2l, 1) := by decide +kernel
theorem dX8_frame_15 : decode cX8_frame 15 = .ok (.invokestatic 142, 3) := by decide +kernel
theorem dX8_frame_18 : decode cX8_frame 18 = .ok (.ifCond .eq 12, 3) := by decide +kernel
theorem dX8_frame_21 : decode cX8_frame 21 = .ok (.aload_n 0, 1) := by decide +kernel
theorem dX8_frame_22 : decode cX8_frame 22 = .ok (.getfield 82, 3) := by decide +kernel
theorem dX8_frame_25 : decode cX8_frame 25 = .ok (.iload_n 1, 1) := by decide +kernel
theorem dX8_frame_26 : decode cX8_frame 26 = .ok (.iaload, 1) := by decide +kernel
theorem dX8_frame_27 : decode cX8_frame 27 = .ok (.goto 4, 3) := by decide +kernel
theorem dX8_frame_30 : decode cX8_frame 30 = .ok (.iconst (-1), 1) := by decide +kernel
theorem dX8_frame_31 : decode cX8_frame 31 = .ok (.ireturn, 1) := by decide +kernel
theorem dX8_frameOf_0 : decode cX8_frameOf 0 = .ok (.aload_n 0, 1) := by decide +kernel
theorem dX8_frameOf_1 : decode cX8_frameOf 1 = .ok (.iconst 0, 1) := by decide +kernel
theorem dX8_frameOf_2 : decode cX8_frameOf 2 = .ok (.putfield 137, 3) := by decide +kernel
theorem dX8_frameOf_5 : decode cX8_frameOf 5 = .ok (.iload_n 1, 1) := by decide +kernel
theorem dX8_frameOf_6 : decode cX8_frameOf 6 = .ok (.invokestatic 146, 3) := by decide +kernel
theorem dX8_frameOf_9 : decode cX8_frameOf 9 = .ok (.ifCond .ne 6, 3) := by decide +kernel
theorem dX8_frameOf_12 : decode cX8_frameOf 12 = .ok (.bipush (-2), 2) := by decide +kernel
theorem dX8_frameOf_14 : decode cX8_frameOf 14 = .ok (.ireturn, 1) := by decide +kernel
theorem dX8_frameOf_15 : decode cX8_frameOf 15 = .ok (.aload_n 0, 1) := by decide +kernel
theorem dX8_frameOf_16 : decode cX8_frameOf 16 = .ok (.getfield 9, 3) := by decide +kernel
theorem dX8_frameOf_19 : decode cX8_frameOf 19 = .ok (.iload_n 1, 1) := by decide +kernel
theorem dX8_frameOf_20 : decode cX8_frameOf 20 = .ok (.iaload, 1) := by decide +kernel
theorem dX8_frameOf_21 : decode cX8_frameOf 21 = .ok (.ifCond .ge 6, 3) := by decide +kernel
theorem dX8_frameOf_24 : decode cX8_frameOf 24 = .ok (.bipush (-5), 2) := by decide +kernel
theorem dX8_frameOf_26 : decode cX8_frameOf 26 = .ok (.ireturn, 1) := by decide +kernel
theorem dX8_frameOf_27 : decode cX8_frameOf 27 = .ok (.aload_n 0, 1) := by decide +kernel
theorem dX8_frameOf_28 : decode cX8_frameOf 28 = .ok (.getfield 13, 3) := by decide +kernel
theorem dX8_frameOf_31 : decode cX8_frameOf 31 = .ok (.iload_n 1, 1) := by decide +kernel
theorem dX8_frameOf_32 : decode cX8_frameOf 32 = .ok (.iaload, 1) := by decide +kernel
theorem dX8_frameOf_33 : decode cX8_frameOf 33 = .ok (.ifCond .ne 6, 3) := by decide +kernel
theorem dX8_frameOf_36 : decode cX8_frameOf 36 = .ok (.bipush (-8), 2) := by decide +kernel
theorem dX8_frameOf_38 : decode cX8_frameOf 38 = .ok (.ireturn, 1) := by decide +kernel
theorem dX8_frameOf_39 : decode cX8_frameOf 39 = .ok (.bipush 12, 2) := by decide +kernel
theorem dX8_frameOf_41 : decode cX8_frameOf 41 = .ok (.aload_n 0, 1) := by decide +kernel
theorem dX8_frameOf_42 : decode cX8_frameOf 42 = .ok (.getfield 13, 3) := by decide +kernel
theorem dX8_frameOf_45 : decode cX8_frameOf 45 = .ok (.iload_n 1, 1) := by decide +kernel
theorem dX8_frameOf_46 : decode cX8_frameOf 46 = .ok (.iaload, 1) := by decide +kernel
theorem dX8_frameOf_47 : decode cX8_frameOf 47 = .ok (.invokestatic 221, 3) := by decide +kernel
theorem dX8_frameOf_50 : decode cX8_frameOf 50 = .ok (.istore_n 2, 1) := by decide +kernel
theorem dX8_frameOf_51 : decode cX8_frameOf 51 = .ok (.iconst 0, 1) := by decide +kernel
theorem dX8_frameOf_52 : decode cX8_frameOf 52 = .ok (.istore_n 3, 1) := by decide +kernel
theorem dX8_frameOf_53 : decode cX8_frameOf 53 = .ok (.iload_n 3, 1) := by decide +kernel
theorem dX8_frameOf_54 : decode cX8_frameOf 54 = .ok (.iload_n 2, 1) := by decide +kernel
theorem dX8_frameOf_55 : decode cX8_frameOf 55 = .ok (.if_icmp .ge 30, 3) := by decide +kernel
theorem dX8_frameOf_58 : decode cX8_frameOf 58 = .ok (.aload_n 0, 1) := by decide +kernel
theorem dX8_frameOf_59 : decode cX8_frameOf 59 = .ok (.aload_n 0, 1) := by decide +kernel
theorem dX8_frameOf_60 : decode cX8_frameOf 60 = .ok (.getfield 16, 3) := by decide +kernel
theorem dX8_frameOf_63 : decode cX8_frameOf 63 = .ok (.bipush 60, 2) := by decide +kernel
theorem dX8_frameOf_65 : decode cX8_frameOf 65 = .ok (.iload_n 1, 1) := by decide +kernel
theorem dX8_frameOf_66 : decode cX8_frameOf 66 = .ok (.imul, 1) := by decide +kernel
theorem dX8_frameOf_67 : decode cX8_frameOf 67 = .ok (.iload_n 3, 1) := by decide +kernel
theorem dX8_frameOf_68 : decode cX8_frameOf 68 = .ok (.iadd, 1) := by decide +kernel
theorem dX8_frameOf_69 : decode cX8_frameOf 69 = .ok (.laload, 1) := by decide +kernel
theorem dX8_frameOf_70 : decode cX8_frameOf 70 = .ok (.invokevirtual 189, 3) := by decide +kernel
theorem dX8_frameOf_73 : decode cX8_frameOf 73 = .ok (.ifCond .ne 6, 3) := by decide +kernel
theorem dX8_frameOf_76 : decode cX8_frameOf 76 = .ok (.bipush (-4), 2) := by decide +kernel
theorem dX8_frameOf_78 : decode cX8_frameOf 78 = .ok (.ireturn, 1) := by decide +kernel
theorem dX8_frameOf_79 : decode cX8_frameOf 79 = .ok (.iinc 3 1, 3) := by decide +kernel
theorem dX8_frameOf_82 : decode cX8_frameOf 82 = .ok (.goto (-29), 3) := by decide +kernel
theorem dX8_frameOf_85 : decode cX8_frameOf 85 = .ok (.iconst 0, 1) := by decide +kernel
theorem dX8_frameOf_86 : decode cX8_frameOf 86 = .ok (.istore_n 3, 1) := by decide +kernel
theorem dX8_frameOf_87 : decode cX8_frameOf 87 = .ok (.iload_n 3, 1) := by decide +kernel
theorem dX8_frameOf_88 : decode cX8_frameOf 88 = .ok (.iload_n 2, 1) := by decide +kernel
theorem dX8_frameOf_89 : decode cX8_frameOf 89 = .ok (.if_icmp .ge 27, 3) := by decide +kernel
theorem dX8_frameOf_92 : decode cX8_frameOf 92 = .ok (.aload_n 0, 1) := by decide +kernel
theorem dX8_frameOf_93 : decode cX8_frameOf 93 = .ok (.getfield 82, 3) := by decide +kernel
theorem dX8_frameOf_96 : decode cX8_frameOf 96 = .ok (.iload_n 3, 1) := by decide +kernel
theorem dX8_frameOf_97 : decode cX8_frameOf 97 = .ok (.aload_n 0, 1) := by decide +kernel
theorem dX8_frameOf_98 : decode cX8_frameOf 98 = .ok (.getfield 16, 3) := by decide +kernel
theorem dX8_frameOf_101 : decode cX8_frameOf 101 = .ok (.bipush 60, 2) := by decide +kernel
theorem dX8_frameOf_103 : decode cX8_frameOf 103 = .ok (.iload_n 1, 1) := by decide +kernel
theorem dX8_frameOf_104 : decode cX8_frameOf 104 = .ok (.imul, 1) := by decide +kernel
theorem dX8_frameOf_105 : decode cX8_frameOf 105 = .ok (.iload_n 3, 1) := by decide +kernel
theorem dX8_frameOf_106 : decode cX8_frameOf 106 = .ok (.iadd, 1) := by decide +kernel
theorem dX8_frameOf_107 : decode cX8_frameOf 107 = .ok (.laload, 1) := by decide +kernel
theorem dX8_frameOf_108 : decode cX8_frameOf 108 = .ok (.l2i, 1) := by decide +kernel
theorem dX8_frameOf_109 : decode cX8_frameOf 109 = .ok (.iastore, 1) := by decide +kernel
theorem dX8_frameOf_110 : decode cX8_frameOf 110 = .ok (.iinc 3 1, 3) := by decide +kernel
theorem dX8_frameOf_113 : decode cX8_frameOf 113 = .ok (.goto (-26), 3) := by decide +kernel
theorem dX8_frameOf_116 : decode cX8_frameOf 116 = .ok (.aload_n 0, 1) := by decide +kernel
theorem dX8_frameOf_117 : decode cX8_frameOf 117 = .ok (.iload_n 2, 1) := by decide +kernel
theorem dX8_frameOf_118 : decode cX8_frameOf 118 = .ok (.putfield 199, 3) := by decide +kernel
theorem dX8_frameOf_121 : decode cX8_frameOf 121 = .ok (.iload_n 2, 1) := by decide +kernel
theorem dX8_frameOf_122 : decode cX8_frameOf 122 = .ok (.ireturn, 1) := by decide +kernel
theorem dX8_proof_0 : decode cX8_proof 0 = .ok (.aload_n 0, 1) := by decide +kernel
theorem dX8_proof_1 : decode cX8_proof 1 = .ok (.iconst 0, 1) := by decide +kernel
theorem dX8_proof_2 : decode cX8_proof 2 = .ok (.putfield 137, 3) := by decide +kernel
theorem dX8_proof_5 : decode cX8_proof 5 = .ok (.aload_n 0, 1) := by decide +kernel
theorem dX8_proof_6 : decode cX8_proof 6 = .ok (.iload_n 1, 1) := by decide +kernel
theorem dX8_proof_7 : decode cX8_proof 7 = .ok (.ldc2_w 226, 3) := by decide +kernel
theorem dX8_proof_10 : decode cX8_proof 10 = .ok (.invokevirtual 177, 3) := by decide +kernel
theorem dX8_proof_13 : decode cX8_proof 13 = .ok (.istore_n 2, 1) := by decide +kernel
theorem dX8_proof_14 : decode cX8_proof 14 = .ok (.iload_n 2, 1) := by decide +kernel
theorem dX8_proof_15 : decode cX8_proof 15 = .ok (.ifCond .ge 6, 3) := by decide +kernel
