theorem dX4_tellRow_38 : decode cX4_tellRow 38 = .ok (.sipush 1024, 3) := by decide +kernel
theorem dX4_tellRow_41 : decode cX4_tellRow 41 = .ok (.idiv, 1) := by decide +kernel
theorem dX4_tellRow_42 : decode cX4_tellRow 42 = .ok (.istore 4, 2) := by decide +kernel
theorem dX4_tellRow_44 : decode cX4_tellRow 44 = .ok (.goto (-26), 3) := by decide +kernel
theorem dX4_tellRow_47 : decode cX4_tellRow 47 = .ok (.aload_n 1, 1) := by decide +kernel
theorem dX4_tellRow_48 : decode cX4_tellRow 48 = .ok (.iload_n 2, 1) := by decide +kernel
theorem dX4_tellRow_49 : decode cX4_tellRow 49 = .ok (.putfield 96, 3) := by decide +kernel
theorem dX4_tellRow_52 : decode cX4_tellRow 52 = .ok (.aload_n 0, 1) := by decide +kernel
theorem dX4_tellRow_53 : decode cX4_tellRow 53 = .ok (.getfield 62, 3) := by decide +kernel
theorem dX4_tellRow_56 : decode cX4_tellRow 56 = .ok (.istore 4, 2) := by decide +kernel
theorem dX4_tellRow_58 : decode cX4_tellRow 58 = .ok (.aload_n 1, 1) := by decide +kernel
theorem dX4_tellRow_59 : decode cX4_tellRow 59 = .ok (.getfield 96, 3) := by decide +kernel
theorem dX4_tellRow_62 : decode cX4_tellRow 62 = .ok (.iconst 1, 1) := by decide +kernel
theorem dX4_tellRow_63 : decode cX4_tellRow 63 = .ok (.isub, 1) := by decide +kernel
theorem dX4_tellRow_64 : decode cX4_tellRow 64 = .ok (.istore 5, 2) := by decide +kernel
theorem dX4_tellRow_66 : decode cX4_tellRow 66 = .ok (.iload 5, 2) := by decide +kernel
theorem dX4_tellRow_68 : decode cX4_tellRow 68 = .ok (.ifCond .lt 35, 3) := by decide +kernel
theorem dX4_tellRow_71 : decode cX4_tellRow 71 = .ok (.aload_n 1, 1) := by decide +kernel
theorem dX4_tellRow_72 : decode cX4_tellRow 72 = .ok (.getfield 91, 3) := by decide +kernel
theorem dX4_tellRow_75 : decode cX4_tellRow 75 = .ok (.iload 5, 2) := by decide +kernel
theorem dX4_tellRow_77 : decode cX4_tellRow 77 = .ok (.iload 4, 2) := by decide +kernel
theorem dX4_tellRow_79 : decode cX4_tellRow 79 = .ok (.sipush 1024, 3) := by decide +kernel
theorem dX4_tellRow_82 : decode cX4_tellRow 82 = .ok (.irem, 1) := by decide +kernel
theorem dX4_tellRow_83 : decode cX4_tellRow 83 = .ok (.iastore, 1) := by decide +kernel
theorem dX4_tellRow_84 : decode cX4_tellRow 84 = .ok (.aload_n 0, 1) := by decide +kernel
theorem dX4_tellRow_85 : decode cX4_tellRow 85 = .ok (.getfield 15, 3) := by decide +kernel
theorem dX4_tellRow_88 : decode cX4_tellRow 88 = .ok (.iload 4, 2) := by decide +kernel
theorem dX4_tellRow_90 : decode cX4_tellRow 90 = .ok (.sipush 1024, 3) := by decide +kernel
theorem dX4_tellRow_93 : decode cX4_tellRow 93 = .ok (.idiv, 1) := by decide +kernel
theorem dX4_tellRow_94 : decode cX4_tellRow 94 = .ok (.iaload, 1) := by decide +kernel
theorem dX4_tellRow_95 : decode cX4_tellRow 95 = .ok (.istore 4, 2) := by decide +kernel
theorem dX4_tellRow_97 : decode cX4_tellRow 97 = .ok (.iinc 5 (-1), 3) := by decide +kernel
theorem dX4_tellRow_100 : decode cX4_tellRow 100 = .ok (.goto (-34), 3) := by decide +kernel
theorem dX4_tellRow_103 : decode cX4_tellRow 103 = .ok (.return_, 1) := by decide +kernel
theorem dX5_init_0 : decode cX5_init 0 = .ok (.aload_n 0, 1) := by decide +kernel
theorem dX5_init_1 : decode cX5_init 1 = .ok (.invokespecial 3, 3) := by decide +kernel
theorem dX5_init_4 : decode cX5_init 4 = .ok (.aload_n 0, 1) := by decide +kernel
theorem dX5_init_5 : decode cX5_init 5 = .ok (.iconst 4, 1) := by decide +kernel
theorem dX5_init_6 : decode cX5_init 6 = .ok (.bipush 60, 2) := by decide +kernel
theorem dX5_init_8 : decode cX5_init 8 = .ok (.multianewarray 11 2, 4) := by decide +kernel
theorem dX5_init_12 : decode cX5_init 12 = .ok (.putfield 13, 3) := by decide +kernel
theorem dX5_init_15 : decode cX5_init 15 = .ok (.aload_n 0, 1) := by decide +kernel
theorem dX5_init_16 : decode cX5_init 16 = .ok (.iconst 4, 1) := by decide +kernel
theorem dX5_init_17 : decode cX5_init 17 = .ok (.newarray .int, 2) := by decide +kernel
theorem dX5_init_19 : decode cX5_init 19 = .ok (.putfield 16, 3) := by decide +kernel
theorem dX5_init_22 : decode cX5_init 22 = .ok (.aload_n 0, 1) := by decide +kernel
theorem dX5_init_23 : decode cX5_init 23 = .ok (.iconst 4, 1) := by decide +kernel
theorem dX5_init_24 : decode cX5_init 24 = .ok (.newarray .int, 2) := by decide +kernel
theorem dX5_init_26 : decode cX5_init 26 = .ok (.dup, 1) := by decide +kernel
theorem dX5_init_27 : decode cX5_init 27 = .ok (.iconst 0, 1) := by decide +kernel
theorem dX5_init_28 : decode cX5_init 28 = .ok (.iconst (-1), 1) := by decide +kernel
theorem dX5_init_29 : decode cX5_init 29 = .ok (.iastore, 1) := by decide +kernel
theorem dX5_init_30 : decode cX5_init 30 = .ok (.dup, 1) := by decide +kernel
theorem dX5_init_31 : decode cX5_init 31 = .ok (.iconst 1, 1) := by decide +kernel
theorem dX5_init_32 : decode cX5_init 32 = .ok (.iconst (-1), 1) := by decide +kernel
theorem dX5_init_33 : decode cX5_init 33 = .ok (.iastore, 1) := by decide +kernel
theorem dX5_init_34 : decode cX5_init 34 = .ok (.dup, 1) := by decide +kernel
theorem dX5_init_35 : decode cX5_init 35 = .ok (.iconst 2, 1) := by decide +kernel
theorem dX5_init_36 : decode cX5_init 36 = .ok (.iconst (-1), 1) := by decide +kernel
theorem dX5_init_37 : decode cX5_init 37 = .ok (.iastore, 1) := by decide +kernel
theorem dX5_init_38 : decode cX5_init 38 = .ok (.dup, 1) := by decide +kernel
theorem dX5_init_39 : decode cX5_init 39 = .ok (.iconst 3, 1) := by decide +kernel
theorem dX5_init_40 : decode cX5_init 40 = .ok (.iconst (-1), 1) := by decide +kernel
theorem dX5_init_41 : decode cX5_init 41 = .ok (.iastore, 1) := by decide +kernel
theorem dX5_init_42 : decode cX5_init 42 = .ok (.putfield 20, 3) := by decide +kernel
theorem dX5_init_45 : decode cX5_init 45 = .ok (.return_, 1) := by decide +kernel
theorem dX5_isPlace_0 : decode cX5_isPlace 0 = .ok (.iload_n 0, 1) := by decide +kernel
theorem dX5_isPlace_1 : decode cX5_isPlace 1 = .ok (.ifCond .lt 12, 3) := by decide +kernel
theorem dX5_isPlace_4 : decode cX5_isPlace 4 = .ok (.iload_n 0, 1) := by decide +kernel
theorem dX5_isPlace_5 : decode cX5_isPlace 5 = .ok (.iconst 4, 1) := by decide +kernel
theorem dX5_isPlace_6 : decode cX5_isPlace 6 = .ok (.if_icmp .ge 7, 3) := by decide +kernel
theorem dX5_isPlace_9 : decode cX5_isPlace 9 = .ok (.iconst 1, 1) := by decide +kernel
theorem dX5_isPlace_10 : decode cX5_isPlace 10 = .ok (.goto 4, 3) := by decide +kernel
theorem dX5_isPlace_13 : decode cX5_isPlace 13 = .ok (.iconst 0, 1) := by decide +kernel
theorem dX5_isPlace_14 : decode cX5_isPlace 14 = .ok (.ireturn, 1) := by decide +kernel
theorem dX5_lengthOf_0 : decode cX5_lengthOf 0 = .ok (.iload_n 1, 1) := by decide +kernel
theorem dX5_lengthOf_1 : decode cX5_lengthOf 1 = .ok (.invokestatic 23, 3) := by decide +kernel
theorem dX5_lengthOf_4 : decode cX5_lengthOf 4 = .ok (.ifCond .eq 12, 3) := by decide +kernel
theorem dX5_lengthOf_7 : decode cX5_lengthOf 7 = .ok (.aload_n 0, 1) := by decide +kernel
theorem dX5_lengthOf_8 : decode cX5_lengthOf 8 = .ok (.getfield 20, 3) := by decide +kernel
theorem dX5_lengthOf_11 : decode cX5_lengthOf 11 = .ok (.iload_n 1, 1) := by decide +kernel
theorem dX5_lengthOf_12 : decode cX5_lengthOf 12 = .ok (.iaload, 1) := by decide +kernel
theorem dX5_lengthOf_13 : decode cX5_lengthOf 13 = .ok (.goto 4, 3) := by decide +kernel
theorem dX5_lengthOf_16 : decode cX5_lengthOf 16 = .ok (.iconst (-1), 1) := by decide +kernel
theorem dX5_lengthOf_17 : decode cX5_lengthOf 17 = .ok (.ireturn, 1) := by decide +kernel
theorem dX5_number_0 : decode cX5_number 0 = .ok (.iload_n 2, 1) := by decide +kernel
theorem dX5_number_1 : decode cX5_number 1 = .ok (.ifCond .lt 23, 3) := by decide +kernel
theorem dX5_number_4 : decode cX5_number 4 = .ok (.iload_n 2, 1) := by decide +kernel
theorem dX5_number_5 : decode cX5_number 5 = .ok (.aload_n 0, 1) := by decide +kernel
theorem dX5_number_6 : decode cX5_number 6 = .ok (.iload_n 1, 1) := by decide +kernel
theorem dX5_number_7 : decode cX5_number 7 = .ok (.invokevirtual 27, 3) := by decide +kernel
theorem dX5_number_10 : decode cX5_number 10 = .ok (.if_icmp .ge 14, 3) := by decide +kernel
theorem dX5_number_13 : decode cX5_number 13 = .ok (.aload_n 0, 1) := by decide +kernel
theorem dX5_number_14 : decode cX5_number 14 = .ok (.getfield 13, 3) := by decide +kernel
theorem dX5_number_17 : decode cX5_number 17 = .ok (.iload_n 1, 1) := by decide +kernel
theorem dX5_number_18 : decode cX5_number 18 = .ok (.aaload, 1) := by decide +kernel
theorem dX5_number_19 : decode cX5_number 19 = .ok (.iload_n 2, 1) := by decide +kernel
theorem dX5_number_20 : decode cX5_number 20 = .ok (.laload, 1) := by decide +kernel
theorem dX5_number_21 : decode cX5_number 21 = .ok (.goto 4, 3) := by decide +kernel
theorem dX5_number_24 : decode cX5_number 24 = .ok (.lconst 0, 1) := by decide +kernel
theorem dX5_number_25 : decode cX5_number 25 = .ok (.lreturn, 1) := by decide +kernel
theorem dX5_placesWithRow_0 : decode cX5_placesWithRow 0 = .ok (.iconst 0, 1) := by decide +kernel
theorem dX5_placesWithRow_1 : decode cX5_placesWithRow 1 = .ok (.istore_n 1, 1) := by decide +kernel
theorem dX5_placesWithRow_2 : decode cX5_placesWithRow 2 = .ok (.iconst 0, 1) := by decide +kernel
theorem dX5_placesWithRow_3 : decode cX5_placesWithRow 3 = .ok (.istore_n 2, 1) := by decide +kernel
theorem dX5_placesWithRow_4 : decode cX5_placesWithRow 4 = .ok (.iload_n 2, 1) := by decide +kernel
theorem dX5_placesWithRow_5 : decode cX5_placesWithRow 5 = .ok (.iconst 4, 1) := by decide +kernel
theorem dX5_placesWithRow_6 : decode cX5_placesWithRow 6 = .ok (.if_icmp .ge 22, 3) := by decide +kernel
theorem dX5_placesWithRow_9 : decode cX5_placesWithRow 9 = .ok (.aload_n 0, 1) := by decide +kernel
theorem dX5_placesWithRow_10 : decode cX5_placesWithRow 10 = .ok (.getfield 20, 3) := by decide +kernel
theorem dX5_placesWithRow_13 : decode cX5_placesWithRow 13 = .ok (.iload_n 2, 1) := by decide +kernel
theorem dX5_placesWithRow_14 : decode cX5_placesWithRow 14 = .ok (.iaload, 1) := by decide +kernel
theorem dX5_placesWithRow_15 : decode cX5_placesWithRow 15 = .ok (.iconst (-1), 1) := by decide +kernel
theorem dX5_placesWithRow_16 : decode cX5_placesWithRow 16 = .ok (.if_icmp .eq 6, 3) := by decide +kernel
theorem dX5_placesWithRow_19 : decode cX5_placesWithRow 19 = .ok (.iinc 1 1, 3) := by decide +kernel
theorem dX5_placesWithRow_22 : decode cX5_placesWithRow 22 = .ok (.iinc 2 1, 3) := by decide +kernel
theorem dX5_placesWithRow_25 : decode cX5_placesWithRow 25 = .ok (.goto (-21), 3) := by decide +kernel
theorem dX5_placesWithRow_28 : decode cX5_placesWithRow 28 = .ok (.iload_n 1, 1) := by decide +kernel
theorem dX5_placesWithRow_29 : decode cX5_placesWithRow 29 = .ok (.ireturn, 1) := by decide +kernel
theorem dX5_refusal_0 : decode cX5_refusal 0 = .ok (.iload_n 1, 1) := by decide +kernel
theorem dX5_refusal_1 : decode cX5_refusal 1 = .ok (.invokestatic 23, 3) := by decide +kernel
theorem dX5_refusal_4 : decode cX5_refusal 4 = .ok (.ifCond .ne 6, 3) := by decide +kernel
theorem dX5_refusal_7 : decode cX5_refusal 7 = .ok (.bipush (-2), 2) := by decide +kernel
theorem dX5_refusal_9 : decode cX5_refusal 9 = .ok (.ireturn, 1) := by decide +kernel
theorem dX5_refusal_10 : decode cX5_refusal 10 = .ok (.aload_n 0, 1) := by decide +kernel
theorem dX5_refusal_11 : decode cX5_refusal 11 = .ok (.getfield 20, 3) := by decide +kernel
theorem dX5_refusal_14 : decode cX5_refusal 14 = .ok (.iload_n 1, 1) := by decide +kernel
theorem dX5_refusal_15 : decode cX5_refusal 15 = .ok (.iaload, 1) := by decide +kernel
theorem dX5_refusal_16 : decode cX5_refusal 16 = .ok (.iconst (-1), 1) := by decide +kernel
theorem dX5_refusal_17 : decode cX5_refusal 17 = .ok (.if_icmp .ne 6, 3) := by decide +kernel
theorem dX5_refusal_20 : decode cX5_refusal 20 = .ok (.bipush (-5), 2) := by decide +kernel
theorem dX5_refusal_22 : decode cX5_refusal 22 = .ok (.ireturn, 1) := by decide +kernel
theorem dX5_refusal_23 : decode cX5_refusal 23 = .ok (.aload_n 0, 1) := by decide +kernel
theorem dX5_refusal_24 : decode cX5_refusal 24 = .ok (.getfield 20, 3) := by decide +kernel
theorem dX5_refusal_27 : decode cX5_refusal 27 = .ok (.iload_n 1, 1) := by decide +kernel
theorem dX5_refusal_28 : decode cX5_refusal 28 = .ok (.iaload, 1) := by decide +kernel
theorem dX5_refusal_29 : decode cX5_refusal 29 = .ok (.iload_n 2, 1) := by decide +kernel
theorem dX5_refusal_30 : decode cX5_refusal 30 = .ok (.if_icmp .ge 6, 3) := by decide +kernel
theorem dX5_refusal_33 : decode cX5_refusal 33 = .ok (.bipush (-6), 2) := by decide +kernel
theorem dX5_refusal_35 : decode cX5_refusal 35 = .ok (.ireturn, 1) := by decide +kernel
theorem dX5_refusal_36 : decode cX5_refusal 36 = .ok (.aload_n 0, 1) := by decide +kernel
theorem dX5_refusal_37 : decode cX5_refusal 37 = .ok (.iload_n 1, 1) := by decide +kernel
theorem dX5_refusal_38 : decode cX5_refusal 38 = .ok (.iload_n 2, 1) := by decide +kernel
theorem dX5_refusal_39 : decode cX5_refusal 39 = .ok (.iload_n 3, 1) := by decide +kernel
theorem dX5_refusal_40 : decode cX5_refusal 40 = .ok (.invokevirtual 31, 3) := by decide +kernel
theorem dX5_refusal_43 : decode cX5_refusal 43 = .ok (.ifCond .eq 7, 3) := by decide +kernel
theorem dX5_refusal_46 : decode cX5_refusal 46 = .ok (.iconst 0, 1) := by decide +kernel
theorem dX5_refusal_47 : decode cX5_refusal 47 = .ok (.goto 5, 3) := by decide +kernel
theorem dX5_refusal_50 : decode cX5_refusal 50 = .ok (.bipush (-4), 2) := by decide +kernel
theorem dX5_refusal_52 : decode cX5_refusal 52 = .ok (.ireturn, 1) := by decide +kernel
theorem dX5_areWithin_0 : decode cX5_areWithin 0 = .ok (.iconst 0, 1) := by decide +kernel
theorem dX5_areWithin_1 : decode cX5_areWithin 1 = .ok (.istore 4, 2) := by decide +kernel
theorem dX5_areWithin_3 : decode cX5_areWithin 3 = .ok (.iload 4, 2) := by decide +kernel
theorem dX5_areWithin_5 : decode cX5_areWithin 5 = .ok (.iload_n 2, 1) := by decide +kernel
theorem dX5_areWithin_6 : decode cX5_areWithin 6 = .ok (.if_icmp .ge 27, 3) := by decide +kernel
theorem dX5_areWithin_9 : decode cX5_areWithin 9 = .ok (.aload_n 0, 1) := by decide +kernel
theorem dX5_areWithin_10 : decode cX5_areWithin 10 = .ok (.iload_n 1, 1) := by decide +kernel
theorem dX5_areWithin_11 : decode cX5_areWithin 11 = .ok (.iload 4, 2) := by decide +kernel
theorem dX5_areWithin_13 : decode cX5_areWithin 13 = .ok (.invokevirtual 35, 3) := by decide +kernel
theorem dX5_areWithin_16 : decode cX5_areWithin 16 = .ok (.lconst 0, 1) := by decide +kernel
theorem dX5_areWithin_17 : decode cX5_areWithin 17 = .ok (.iload_n 3, 1) := by decide +kernel
theorem dX5_areWithin_18 : decode cX5_areWithin 18 = .ok (.i2l, 1) := by decide +kernel
theorem dX5_areWithin_19 : decode cX5_areWithin 19 = .ok (.invokestatic 39, 3) := by decide +kernel
theorem dX5_areWithin_22 : decode cX5_areWithin 22 = .ok (.ifCond .ne 5, 3) := by decide +kernel
theorem dX5_areWithin_25 : decode cX5_areWithin 25 = .ok (.iconst 0, 1) := by decide +kernel
theorem dX5_areWithin_26 : decode cX5_areWithin 26 = .ok (.ireturn, 1) := by decide +kernel
theorem dX5_areWithin_27 : decode cX5_areWithin 27 = .ok (.iinc 4 1, 3) := by decide +kernel
theorem dX5_areWithin_30 : decode cX5_areWithin 30 = .ok (.goto (-27), 3) := by decide +kernel
theorem dX5_areWithin_33 : decode cX5_areWithin 33 = .ok (.iconst 1, 1) := by decide +kernel
theorem dX5_areWithin_34 : decode cX5_areWithin 34 = .ok (.ireturn, 1) := by decide +kernel
theorem dX5_lay_0 : decode cX5_lay 0 = .ok (.iload_n 1, 1) := by decide +kernel
theorem dX5_lay_1 : decode cX5_lay 1 = .ok (.invokestatic 23, 3) := by decide +kernel
theorem dX5_lay_4 : decode cX5_lay 4 = .ok (.ifCond .eq 21, 3) := by decide +kernel
theorem dX5_lay_7 : decode cX5_lay 7 = .ok (.iload_n 2, 1) := by decide +kernel
theorem dX5_lay_8 : decode cX5_lay 8 = .ok (.i2l, 1) := by decide +kernel
theorem dX5_lay_9 : decode cX5_lay 9 = .ok (.lconst 0, 1) := by decide +kernel
theorem dX5_lay_10 : decode cX5_lay 10 = .ok (.ldc2_w 43, 3) := by decide +kernel
theorem dX5_lay_13 : decode cX5_lay 13 = .ok (.invokestatic 39, 3) := by decide +kernel
theorem dX5_lay_16 : decode cX5_lay 16 = .ok (.ifCond .eq 9, 3) := by decide +kernel
theorem dX5_lay_19 : decode cX5_lay 19 = .ok (.iload_n 3, 1) := by decide +kernel
theorem dX5_lay_20 : decode cX5_lay 20 = .ok (.bipush 60, 2) := by decide +kernel
theorem dX5_lay_22 : decode cX5_lay 22 = .ok (.if_icmp .le 6, 3) := by decide +kernel
theorem dX5_lay_25 : decode cX5_lay 25 = .ok (.bipush (-2), 2) := by decide +kernel
theorem dX5_lay_27 : decode cX5_lay 27 = .ok (.ireturn, 1) := by decide +kernel
theorem dX5_lay_28 : decode cX5_lay 28 = .ok (.iload_n 3, 1) := by decide +kernel
theorem dX5_lay_29 : decode cX5_lay 29 = .ok (.ifCond .ge 6, 3) := by decide +kernel
theorem dX5_lay_32 : decode cX5_lay 32 = .ok (.bipush (-3), 2) := by decide +kernel
theorem dX5_lay_34 : decode cX5_lay 34 = .ok (.ireturn, 1) := by decide +kernel
theorem dX5_lay_35 : decode cX5_lay 35 = .ok (.aload_n 0, 1) := by decide +kernel
theorem dX5_lay_36 : decode cX5_lay 36 = .ok (.getfield 13, 3) := by decide +kernel
theorem dX5_lay_39 : decode cX5_lay 39 = .ok (.iload_n 1, 1) := by decide +kernel
theorem dX5_lay_40 : decode cX5_lay 40 = .ok (.aaload, 1) := by decide +kernel
theorem dX5_lay_41 : decode cX5_lay 41 = .ok (.lconst 0, 1) := by decide +kernel
theorem dX5_lay_42 : decode cX5_lay 42 = .ok (.invokestatic 45, 3) := by decide +kernel
theorem dX5_lay_45 : decode cX5_lay 45 = .ok (.aload_n 0, 1) := by decide +kernel
theorem dX5_lay_46 : decode cX5_lay 46 = .ok (.getfield 16, 3) := by decide +kernel
theorem dX5_lay_49 : decode cX5_lay 49 = .ok (.iload_n 1, 1) := by decide +kernel
theorem dX5_lay_50 : decode cX5_lay 50 = .ok (.iload_n 2, 1) := by decide +kernel
theorem dX5_lay_51 : decode cX5_lay 51 = .ok (.iastore, 1) := by decide +kernel
theorem dX5_lay_52 : decode cX5_lay 52 = .ok (.aload_n 0, 1) := by decide +kernel
theorem dX5_lay_53 : decode cX5_lay 53 = .ok (.getfield 20, 3) := by decide +kernel
theorem dX5_lay_56 : decode cX5_lay 56 = .ok (.iload_n 1, 1) := by decide +kernel
theorem dX5_lay_57 : decode cX5_lay 57 = .ok (.iload_n 3, 1) := by decide +kernel
theorem dX5_lay_58 : decode cX5_lay 58 = .ok (.iastore, 1) := by decide +kernel
theorem dX5_lay_59 : decode cX5_lay 59 = .ok (.iconst 0, 1) := by decide +kernel
theorem dX5_lay_60 : decode cX5_lay 60 = .ok (.ireturn, 1) := by decide +kernel
theorem dX5_clear_0 : decode cX5_clear 0 = .ok (.aload_n 0, 1) := by decide +kernel
theorem dX5_clear_1 : decode cX5_clear 1 = .ok (.iload_n 1, 1) := by decide +kernel
theorem dX5_clear_2 : decode cX5_clear 2 = .ok (.invokevirtual 27, 3) := by decide +kernel
theorem dX5_clear_5 : decode cX5_clear 5 = .ok (.iconst (-1), 1) := by decide +kernel
theorem dX5_clear_6 : decode cX5_clear 6 = .ok (.if_icmp .ne 5, 3) := by decide +kernel
theorem dX5_clear_9 : decode cX5_clear 9 = .ok (.iconst 0, 1) := by decide +kernel
theorem dX5_clear_10 : decode cX5_clear 10 = .ok (.ireturn, 1) := by decide +kernel
theorem dX5_clear_11 : decode cX5_clear 11 = .ok (.aload_n 0, 1) := by decide +kernel
theorem dX5_clear_12 : decode cX5_clear 12 = .ok (.getfield 20, 3) := by decide +kernel
theorem dX5_clear_15 : decode cX5_clear 15 = .ok (.iload_n 1, 1) := by decide +kernel
theorem dX5_clear_16 : decode cX5_clear 16 = .ok (.iconst (-1), 1) := by decide +kernel
theorem dX5_clear_17 : decode cX5_clear 17 = .ok (.iastore, 1) := by decide +kernel
theorem dX5_clear_18 : decode cX5_clear 18 = .ok (.iconst 1, 1) := by decide +kernel
theorem dX5_clear_19 : decode cX5_clear 19 = .ok (.ireturn, 1) := by decide +kernel
theorem dX5_put_0 : decode cX5_put 0 = .ok (.iload_n 1, 1) := by decide +kernel
theorem dX5_put_1 : decode cX5_put 1 = .ok (.invokestatic 23, 3) := by decide +kernel
theorem dX5_put_4 : decode cX5_put 4 = .ok (.ifCond .ne 6, 3) := by decide +kernel
theorem dX5_put_7 : decode cX5_put 7 = .ok (.bipush (-2), 2) := by decide +kernel
theorem dX5_put_9 : decode cX5_put 9 = .ok (.ireturn, 1) := by decide +kernel
theorem dX5_put_10 : decode cX5_put 10 = .ok (.aload_n 0, 1) := by decide +kernel
theorem dX5_put_11 : decode cX5_put 11 = .ok (.getfield 20, 3) := by decide +kernel
theorem dX5_put_14 : decode cX5_put 14 = .ok (.iload_n 1, 1) := by decide +kernel
theorem dX5_put_15 : decode cX5_put 15 = .ok (.iaload, 1) := by decide +kernel
theorem dX5_put_16 : decode cX5_put 16 = .ok (.iconst (-1), 1) := by decide +kernel
theorem dX5_put_17 : decode cX5_put 17 = .ok (.if_icmp .ne 6, 3) := by decide +kernel
theorem dX5_put_20 : decode cX5_put 20 = .ok (.bipush (-5), 2) := by decide +kernel
theorem dX5_put_22 : decode cX5_put 22 = .ok (.ireturn, 1) := by decide +kernel
theorem dX5_put_23 : decode cX5_put 23 = .ok (.iload_n 2, 1) := by decide +kernel
theorem dX5_put_24 : decode cX5_put 24 = .ok (.ifCond .lt 13, 3) := by decide +kernel
theorem dX5_put_27 : decode cX5_put 27 = .ok (.iload_n 2, 1) := by decide +kernel
theorem dX5_put_28 : decode cX5_put 28 = .ok (.aload_n 0, 1) := by decide +kernel
theorem dX5_put_29 : decode cX5_put 29 = .ok (.getfield 20, 3) := by decide +kernel
theorem dX5_put_32 : decode cX5_put 32 = .ok (.iload_n 1, 1) := by decide +kernel
theorem dX5_put_33 : decode cX5_put 33 = .ok (.iaload, 1) := by decide +kernel
theorem dX5_put_34 : decode cX5_put 34 = .ok (.if_icmp .lt 6, 3) := by decide +kernel
theorem dX5_put_37 : decode cX5_put 37 = .ok (.bipush (-6), 2) := by decide +kernel
theorem dX5_put_39 : decode cX5_put 39 = .ok (.ireturn, 1) := by decide +kernel
theorem dX5_put_40 : decode cX5_put 40 = .ok (.aload_n 0, 1) := by decide +kernel
theorem dX5_put_41 : decode cX5_put 41 = .ok (.getfield 13, 3) := by decide +kernel
theorem dX5_put_44 : decode cX5_put 44 = .ok (.iload_n 1, 1) := by decide +kernel
theorem dX5_put_45 : decode cX5_put 45 = .ok (.aaload, 1) := by decide +kernel
theorem dX5_put_46 : decode cX5_put 46 = .ok (.iload_n 2, 1) := by decide +kernel
theorem dX5_put_47 : decode cX5_put 47 = .ok (.lload_n 3, 1) := by decide +kernel
theorem dX5_put_48 : decode cX5_put 48 = .ok (.aload_n 0, 1) := by decide +kernel
theorem dX5_put_49 : decode cX5_put 49 = .ok (.getfield 16, 3) := by decide +kernel
theorem dX5_put_52 : decode cX5_put 52 = .ok (.iload_n 1, 1) := by decide +kernel
theorem dX5_put_53 : decode cX5_put 53 = .ok (.iaload, 1) := by decide +kernel
theorem dX5_put_54 : decode cX5_put 54 = .ok (.invokestatic 51, 3) := by decide +kernel
theorem dX5_put_57 : decode cX5_put 57 = .ok (.lastore, 1) := by decide +kernel
theorem dX5_put_58 : decode cX5_put 58 = .ok (.iconst 0, 1) := by decide +kernel
theorem dX5_put_59 : decode cX5_put 59 = .ok (.ireturn, 1) := by decide +kernel
theorem dX5_cut_0 : decode cX5_cut 0 = .ok (.iload_n 2, 1) := by decide +kernel
theorem dX5_cut_1 : decode cX5_cut 1 = .ok (.tableswitch 41 0 2 #[27, 32, 37], 27) := by decide +kernel
theorem dX5_cut_28 : decode cX5_cut 28 = .ok (.lload_n 0, 1) := by decide +kernel
theorem dX5_cut_29 : decode cX5_cut 29 = .ok (.l2i, 1) := by decide +kernel
theorem dX5_cut_30 : decode cX5_cut 30 = .ok (.i2b, 1) := by decide +kernel
theorem dX5_cut_31 : decode cX5_cut 31 = .ok (.i2l, 1) := by decide +kernel
theorem dX5_cut_32 : decode cX5_cut 32 = .ok (.lreturn, 1) := by decide +kernel
theorem dX5_cut_33 : decode cX5_cut 33 = .ok (.lload_n 0, 1) := by decide +kernel
theorem dX5_cut_34 : decode cX5_cut 34 = .ok (.l2i, 1) := by decide +kernel
theorem dX5_cut_35 : decode cX5_cut 35 = .ok (.i2s, 1) := by decide +kernel
theorem dX5_cut_36 : decode cX5_cut 36 = .ok (.i2l, 1) := by decide +kernel
theorem dX5_cut_37 : decode cX5_cut 37 = .ok (.lreturn, 1) := by decide +kernel
theorem dX5_cut_38 : decode cX5_cut 38 = .ok (.lload_n 0, 1) := by decide +kernel
theorem dX5_cut_39 : decode cX5_cut 39 = .ok (.l2i, 1) := by decide +kernel
theorem dX5_cut_40 : decode cX5_cut 40 = .ok (.i2l, 1) := by decide +kernel
theorem dX5_cut_41 : decode cX5_cut 41 = .ok (.lreturn, 1) := by decide +kernel
theorem dX5_cut_42 : decode cX5_cut 42 = .ok (.lload_n 0, 1) := by decide +kernel
theorem dX5_cut_43 : decode cX5_cut 43 = .ok (.lreturn, 1) := by decide +kernel
theorem dX5_copy_0 : decode cX5_copy 0 = .ok (.iload_n 1, 1) := by decide +kernel
theorem dX5_copy_1 : decode cX5_copy 1 = .ok (.invokestatic 23, 3) := by decide +kernel
theorem dX5_copy_4 : decode cX5_copy 4 = .ok (.ifCond .eq 10, 3) := by decide +kernel
theorem dX5_copy_7 : decode cX5_copy 7 = .ok (.iload_n 3, 1) := by decide +kernel
theorem dX5_copy_8 : decode cX5_copy 8 = .ok (.invokestatic 23, 3) := by decide +kernel
theorem dX5_copy_11 : decode cX5_copy 11 = .ok (.ifCond .ne 6, 3) := by decide +kernel
theorem dX5_copy_14 : decode cX5_copy 14 = .ok (.bipush (-2), 2) := by decide +kernel
theorem dX5_copy_16 : decode cX5_copy 16 = .ok (.ireturn, 1) := by decide +kernel
theorem dX5_copy_17 : decode cX5_copy 17 = .ok (.aload_n 0, 1) := by decide +kernel
theorem dX5_copy_18 : decode cX5_copy 18 = .ok (.getfield 20, 3) := by decide +kernel
theorem dX5_copy_21 : decode cX5_copy 21 = .ok (.iload_n 1, 1) := by decide +kernel
theorem dX5_copy_22 : decode cX5_copy 22 = .ok (.iaload, 1) := by decide +kernel
theorem dX5_copy_23 : decode cX5_copy 23 = .ok (.iconst (-1), 1) := by decide +kernel
theorem dX5_copy_24 : decode cX5_copy 24 = .ok (.if_icmp .eq 13, 3) := by decide +kernel
theorem dX5_copy_27 : decode cX5_copy 27 = .ok (.aload_n 0, 1) := by decide +kernel
theorem dX5_copy_28 : decode cX5_copy 28 = .ok (.getfield 20, 3) := by decide +kernel
theorem dX5_copy_31 : decode cX5_copy 31 = .ok (.iload_n 3, 1) := by decide +kernel
theorem dX5_copy_32 : decode cX5_copy 32 = .ok (.iaload, 1) := by decide +kernel
theorem dX5_copy_33 : decode cX5_copy 33 = .ok (.iconst (-1), 1) := by decide +kernel
theorem dX5_copy_34 : decode cX5_copy 34 = .ok (.if_icmp .ne 6, 3) := by decide +kernel
theorem dX5_copy_37 : decode cX5_copy 37 = .ok (.bipush (-5), 2) := by decide +kernel
theorem dX5_copy_39 : decode cX5_copy 39 = .ok (.ireturn, 1) := by decide +kernel
theorem dX5_copy_40 : decode cX5_copy 40 = .ok (.aload_n 0, 1) := by decide +kernel
theorem dX5_copy_41 : decode cX5_copy 41 = .ok (.getfield 16, 3) := by decide +kernel
theorem dX5_copy_44 : decode cX5_copy 44 = .ok (.iload_n 1, 1) := by decide +kernel
theorem dX5_copy_45 : decode cX5_copy 45 = .ok (.iaload, 1) := by decide +kernel
theorem dX5_copy_46 : decode cX5_copy 46 = .ok (.aload_n 0, 1) := by decide +kernel
theorem dX5_copy_47 : decode cX5_copy 47 = .ok (.getfield 16, 3) := by decide +kernel
theorem dX5_copy_50 : decode cX5_copy 50 = .ok (.iload_n 3, 1) := by decide +kernel
theorem dX5_copy_51 : decode cX5_copy 51 = .ok (.iaload, 1) := by decide +kernel
theorem dX5_copy_52 : decode cX5_copy 52 = .ok (.if_icmp .eq 6, 3) := by decide +kernel
theorem dX5_copy_55 : decode cX5_copy 55 = .ok (.bipush (-7), 2) := by decide +kernel
theorem dX5_copy_57 : decode cX5_copy 57 = .ok (.ireturn, 1) := by decide +kernel
theorem dX5_copy_58 : decode cX5_copy 58 = .ok (.iload_n 2, 1) := by decide +kernel
theorem dX5_copy_59 : decode cX5_copy 59 = .ok (.ifCond .lt 40, 3) := by decide +kernel
theorem dX5_copy_62 : decode cX5_copy 62 = .ok (.iload 4, 2) := by decide +kernel
theorem dX5_copy_64 : decode cX5_copy 64 = .ok (.ifCond .lt 35, 3) := by decide +kernel
theorem dX5_copy_67 : decode cX5_copy 67 = .ok (.iload 5, 2) := by decide +kernel
theorem dX5_copy_69 : decode cX5_copy 69 = .ok (.ifCond .lt 30, 3) := by decide +kernel
theorem dX5_copy_72 : decode cX5_copy 72 = .ok (.iload_n 2, 1) := by decide +kernel
theorem dX5_copy_73 : decode cX5_copy 73 = .ok (.aload_n 0, 1) := by decide +kernel
theorem dX5_copy_74 : decode cX5_copy 74 = .ok (.getfield 20, 3) := by decide +kernel
theorem dX5_copy_77 : decode cX5_copy 77 = .ok (.iload_n 1, 1) := by decide +kernel
theorem dX5_copy_78 : decode cX5_copy 78 = .ok (.iaload, 1) := by decide +kernel
theorem dX5_copy_79 : decode cX5_copy 79 = .ok (.iload 5, 2) := by decide +kernel
theorem dX5_copy_81 : decode cX5_copy 81 = .ok (.isub, 1) := by decide +kernel
theorem dX5_copy_82 : decode cX5_copy 82 = .ok (.if_icmp .gt 17, 3) := by decide +kernel
theorem dX5_copy_85 : decode cX5_copy 85 = .ok (.iload 4, 2) := by decide +kernel
theorem dX5_copy_87 : decode cX5_copy 87 = .ok (.aload_n 0, 1) := by decide +kernel
theorem dX5_copy_88 : decode cX5_copy 88 = .ok (.getfield 20, 3) := by decide +kernel
theorem dX5_copy_91 : decode cX5_copy 91 = .ok (.iload_n 3, 1) := by decide +kernel
theorem dX5_copy_92 : decode cX5_copy 92 = .ok (.iaload, 1) := by decide +kernel
theorem dX5_copy_93 : decode cX5_copy 93 = .ok (.iload 5, 2) := by decide +kernel
theorem dX5_copy_95 : decode cX5_copy 95 = .ok (.isub, 1) := by decide +kernel
theorem dX5_copy_96 : decode cX5_copy 96 = .ok (.if_icmp .le 6, 3) := by decide +kernel
theorem dX5_copy_99 : decode cX5_copy 99 = .ok (.bipush (-6), 2) := by decide +kernel
theorem dX5_copy_101 : decode cX5_copy 101 = .ok (.ireturn, 1) := by decide +kernel
theorem dX5_copy_102 : decode cX5_copy 102 = .ok (.aload_n 0, 1) := by decide +kernel
theorem dX5_copy_103 : decode cX5_copy 103 = .ok (.getfield 13, 3) := by decide +kernel
theorem dX5_copy_106 : decode cX5_copy 106 = .ok (.iload_n 1, 1) := by decide +kernel
theorem dX5_copy_107 : decode cX5_copy 107 = .ok (.aaload, 1) := by decide +kernel
theorem dX5_copy_108 : decode cX5_copy 108 = .ok (.iload_n 2, 1) := by decide +kernel
theorem dX5_copy_109 : decode cX5_copy 109 = .ok (.aload_n 0, 1) := by decide +kernel
theorem dX5_copy_110 : decode cX5_copy 110 = .ok (.getfield 13, 3) := by decide +kernel
theorem dX5_copy_113 : decode cX5_copy 113 = .ok (.iload_n 3, 1) := by decide +kernel
theorem dX5_copy_114 : decode cX5_copy 114 = .ok (.aaload, 1) := by decide +kernel
theorem dX5_copy_115 : decode cX5_copy 115 = .ok (.iload 4, 2) := by decide +kernel
theorem dX5_copy_117 : decode cX5_copy 117 = .ok (.iload 5, 2) := by decide +kernel
theorem dX5_copy_119 : decode cX5_copy 119 = .ok (.invokestatic 55, 3) := by decide +kernel
theorem dX5_copy_122 : decode cX5_copy 122 = .ok (.iconst 0, 1) := by decide +kernel
theorem dX5_copy_123 : decode cX5_copy 123 = .ok (.ireturn, 1) := by decide +kernel
theorem dX6_init_0 : decode cX6_init 0 = .ok (.aload_n 0, 1) := by decide +kernel
theorem dX6_init_1 : decode cX6_init 1 = .ok (.invokespecial 5, 3) := by decide +kernel
theorem dX6_init_4 : decode cX6_init 4 = .ok (.aload_n 0, 1) := by decide +kernel
theorem dX6_init_5 : decode cX6_init 5 = .ok (.sipush 1024, 3) := by decide +kernel
theorem dX6_init_8 : decode cX6_init 8 = .ok (.newarray .int, 2) := by decide +kernel
theorem dX6_init_10 : decode cX6_init 10 = .ok (.putfield 11, 3) := by decide +kernel
theorem dX6_init_13 : decode cX6_init 13 = .ok (.aload_n 0, 1) := by decide +kernel
theorem dX6_init_14 : decode cX6_init 14 = .ok (.sipush 387, 3) := by decide +kernel
theorem dX6_init_17 : decode cX6_init 17 = .ok (.newarray .int, 2) := by decide +kernel
theorem dX6_init_19 : decode cX6_init 19 = .ok (.putfield 15, 3) := by decide +kernel
theorem dX6_init_22 : decode cX6_init 22 = .ok (.aload_n 0, 1) := by decide +kernel
theorem dX6_init_23 : decode cX6_init 23 = .ok (.bipush 8, 2) := by decide +kernel
theorem dX6_init_25 : decode cX6_init 25 = .ok (.newarray .long, 2) := by decide +kernel
theorem dX6_init_27 : decode cX6_init 27 = .ok (.putfield 18, 3) := by decide +kernel
theorem dX6_init_30 : decode cX6_init 30 = .ok (.aload_n 0, 1) := by decide +kernel
theorem dX6_init_31 : decode cX6_init 31 = .ok (.bipush 8, 2) := by decide +kernel
theorem dX6_init_33 : decode cX6_init 33 = .ok (.newarray .long, 2) := by decide +kernel
theorem dX6_init_35 : decode cX6_init 35 = .ok (.putfield 22, 3) := by decide +kernel
theorem dX6_init_38 : decode cX6_init 38 = .ok (.aload_n 0, 1) := by decide +kernel
theorem dX6_init_39 : decode cX6_init 39 = .ok (.bipush 72, 2) := by decide +kernel
theorem dX6_init_41 : decode cX6_init 41 = .ok (.newarray .byte, 2) := by decide +kernel
theorem dX6_init_43 : decode cX6_init 43 = .ok (.putfield 25, 3) := by decide +kernel
theorem dX6_init_46 : decode cX6_init 46 = .ok (.return_, 1) := by decide +kernel
theorem dX6_countRows_0 : decode cX6_countRows 0 = .ok (.aload_n 0, 1) := by decide +kernel
theorem dX6_countRows_1 : decode cX6_countRows 1 = .ok (.aload_n 1, 1) := by decide +kernel
theorem dX6_countRows_2 : decode cX6_countRows 2 = .ok (.iload_n 2, 1) := by decide +kernel
theorem dX6_countRows_3 : decode cX6_countRows 3 = .ok (.invokevirtual 29, 3) := by decide +kernel
theorem dX6_countRows_6 : decode cX6_countRows 6 = .ok (.aload_n 0, 1) := by decide +kernel
theorem dX6_countRows_7 : decode cX6_countRows 7 = .ok (.getfield 15, 3) := by decide +kernel
theorem dX6_countRows_10 : decode cX6_countRows 10 = .ok (.iconst 0, 1) := by decide +kernel
theorem dX6_countRows_11 : decode cX6_countRows 11 = .ok (.invokestatic 33, 3) := by decide +kernel
theorem dX6_countRows_14 : decode cX6_countRows 14 = .ok (.iconst 0, 1) := by decide +kernel
theorem dX6_countRows_15 : decode cX6_countRows 15 = .ok (.istore 4, 2) := by decide +kernel
theorem dX6_countRows_17 : decode cX6_countRows 17 = .ok (.iload 4, 2) := by decide +kernel
theorem dX6_countRows_19 : decode cX6_countRows 19 = .ok (.iload_n 2, 1) := by decide +kernel
theorem dX6_countRows_20 : decode cX6_countRows 20 = .ok (.if_icmp .gt 59, 3) := by decide +kernel
theorem dX6_countRows_23 : decode cX6_countRows 23 = .ok (.iload 4, 2) := by decide +kernel
theorem dX6_countRows_25 : decode cX6_countRows 25 = .ok (.sipush 1024, 3) := by decide +kernel
theorem dX6_countRows_28 : decode cX6_countRows 28 = .ok (.if_icmp .ge 51, 3) := by decide +kernel
theorem dX6_countRows_31 : decode cX6_countRows 31 = .ok (.aload_n 0, 1) := by decide +kernel
theorem dX6_countRows_32 : decode cX6_countRows 32 = .ok (.getfield 11, 3) := by decide +kernel
theorem dX6_countRows_35 : decode cX6_countRows 35 = .ok (.iload 4, 2) := by decide +kernel
theorem dX6_countRows_37 : decode cX6_countRows 37 = .ok (.iaload, 1) := by decide +kernel
theorem dX6_countRows_38 : decode cX6_countRows 38 = .ok (.sipush 386, 3) := by decide +kernel
theorem dX6_countRows_41 : decode cX6_countRows 41 = .ok (.invokestatic 39, 3) := by decide +kernel
theorem dX6_countRows_44 : decode cX6_countRows 44 = .ok (.istore 5, 2) := by decide +kernel
theorem dX6_countRows_46 : decode cX6_countRows 46 = .ok (.aload_n 0, 1) := by decide +kernel
theorem dX6_countRows_47 : decode cX6_countRows 47 = .ok (.getfield 15, 3) := by decide +kernel
theorem dX6_countRows_50 : decode cX6_countRows 50 = .ok (.iload 5, 2) := by decide +kernel
theorem dX6_countRows_52 : decode cX6_countRows 52 = .ok (.dup2, 1) := by decide +kernel
theorem dX6_countRows_53 : decode cX6_countRows 53 = .ok (.iaload, 1) := by decide +kernel
theorem dX6_countRows_54 : decode cX6_countRows 54 = .ok (.iload_n 2, 1) := by decide +kernel
theorem dX6_countRows_55 : decode cX6_countRows 55 = .ok (.iload 4, 2) := by decide +kernel
theorem dX6_countRows_57 : decode cX6_countRows 57 = .ok (.ixor, 1) := by decide +kernel
theorem dX6_countRows_58 : decode cX6_countRows 58 = .ok (.invokestatic 45, 3) := by decide +kernel
theorem dX6_countRows_61 : decode cX6_countRows 61 = .ok (.iconst 2, 1) := by decide +kernel
theorem dX6_countRows_62 : decode cX6_countRows 62 = .ok (.irem, 1) := by decide +kernel
theorem dX6_countRows_63 : decode cX6_countRows 63 = .ok (.ifCond .ne 7, 3) := by decide +kernel
theorem dX6_countRows_66 : decode cX6_countRows 66 = .ok (.iconst 1, 1) := by decide +kernel
theorem dX6_countRows_67 : decode cX6_countRows 67 = .ok (.goto 4, 3) := by decide +kernel
theorem dX6_countRows_70 : decode cX6_countRows 70 = .ok (.iconst (-1), 1) := by decide +kernel
theorem dX6_countRows_71 : decode cX6_countRows 71 = .ok (.iadd, 1) := by decide +kernel
theorem dX6_countRows_72 : decode cX6_countRows 72 = .ok (.iastore, 1) := by decide +kernel
theorem dX6_countRows_73 : decode cX6_countRows 73 = .ok (.iinc 4 1, 3) := by decide +kernel
theorem dX6_countRows_76 : decode cX6_countRows 76 = .ok (.goto (-59), 3) := by decide +kernel
theorem dX6_countRows_79 : decode cX6_countRows 79 = .ok (.aload_n 0, 1) := by decide +kernel
theorem dX6_countRows_80 : decode cX6_countRows 80 = .ok (.getfield 22, 3) := by decide +kernel
theorem dX6_countRows_83 : decode cX6_countRows 83 = .ok (.lconst 0, 1) := by decide +kernel
theorem dX6_countRows_84 : decode cX6_countRows 84 = .ok (.invokestatic 51, 3) := by decide +kernel
theorem dX6_countRows_87 : decode cX6_countRows 87 = .ok (.iconst 0, 1) := by decide +kernel
theorem dX6_countRows_88 : decode cX6_countRows 88 = .ok (.istore 4, 2) := by decide +kernel
theorem dX6_countRows_90 : decode cX6_countRows 90 = .ok (.iload 4, 2) := by decide +kernel
theorem dX6_countRows_92 : decode cX6_countRows 92 = .ok (.sipush 386, 3) := by decide +kernel
theorem dX6_countRows_95 : decode cX6_countRows 95 = .ok (.if_icmp .gt 37, 3) := by decide +kernel
theorem dX6_countRows_98 : decode cX6_countRows 98 = .ok (.aload_n 0, 1) := by decide +kernel
theorem dX6_countRows_99 : decode cX6_countRows 99 = .ok (.getfield 15, 3) := by decide +kernel
theorem dX6_countRows_102 : decode cX6_countRows 102 = .ok (.iload 4, 2) := by decide +kernel
theorem dX6_countRows_104 : decode cX6_countRows 104 = .ok (.iaload, 1) := by decide +kernel
theorem dX6_countRows_105 : decode cX6_countRows 105 = .ok (.ifCond .eq 21, 3) := by decide +kernel
theorem dX6_countRows_108 : decode cX6_countRows 108 = .ok (.aload_n 0, 1) := by decide +kernel
theorem dX6_countRows_109 : decode cX6_countRows 109 = .ok (.iload 4, 2) := by decide +kernel
theorem dX6_countRows_111 : decode cX6_countRows 111 = .ok (.iload_n 3, 1) := by decide +kernel
theorem dX6_countRows_112 : decode cX6_countRows 112 = .ok (.invokevirtual 54, 3) := by decide +kernel
theorem dX6_countRows_115 : decode cX6_countRows 115 = .ok (.aload_n 0, 1) := by decide +kernel
theorem dX6_countRows_116 : decode cX6_countRows 116 = .ok (.aload_n 0, 1) := by decide +kernel
theorem dX6_countRows_117 : decode cX6_countRows 117 = .ok (.getfield 15, 3) := by decide +kernel
theorem dX6_countRows_120 : decode cX6_countRows 120 = .ok (.iload 4, 2) := by decide +kernel
theorem dX6_countRows_122 : decode cX6_countRows 122 = .ok (.iaload, 1) := by decide +kernel
theorem dX6_countRows_123 : decode cX6_countRows 123 = .ok (.invokevirtual 58, 3) := by decide +kernel
theorem dX6_countRows_126 : decode cX6_countRows 126 = .ok (.iinc 4 1, 3) := by decide +kernel
theorem dX6_countRows_129 : decode cX6_countRows 129 = .ok (.goto (-39), 3) := by decide +kernel
theorem dX6_countRows_132 : decode cX6_countRows 132 = .ok (.aload_n 0, 1) := by decide +kernel
theorem dX6_countRows_133 : decode cX6_countRows 133 = .ok (.invokevirtual 62, 3) := by decide +kernel
theorem dX6_countRows_136 : decode cX6_countRows 136 = .ok (.aload_n 0, 1) := by decide +kernel
theorem dX6_countRows_137 : decode cX6_countRows 137 = .ok (.invokevirtual 65, 3) := by decide +kernel
theorem dX6_countRows_140 : decode cX6_countRows 140 = .ok (.return_, 1) := by decide +kernel
theorem dX6_countWithin_0 : decode cX6_countWithin 0 = .ok (.iconst 0, 1) := by decide +kernel
theorem dX6_countWithin_1 : decode cX6_countWithin 1 = .ok (.istore_n 3, 1) := by decide +kernel
theorem dX6_countWithin_2 : decode cX6_countWithin 2 = .ok (.iload_n 3, 1) := by decide +kernel
theorem dX6_countWithin_3 : decode cX6_countWithin 3 = .ok (.iload_n 2, 1) := by decide +kernel
theorem dX6_countWithin_4 : decode cX6_countWithin 4 = .ok (.if_icmp .gt 35, 3) := by decide +kernel
theorem dX6_countWithin_7 : decode cX6_countWithin 7 = .ok (.iload_n 3, 1) := by decide +kernel
theorem dX6_countWithin_8 : decode cX6_countWithin 8 = .ok (.sipush 1024, 3) := by decide +kernel
theorem dX6_countWithin_11 : decode cX6_countWithin 11 = .ok (.if_icmp .ge 28, 3) := by decide +kernel
theorem dX6_countWithin_14 : decode cX6_countWithin 14 = .ok (.aload_n 0, 1) := by decide +kernel
theorem dX6_countWithin_15 : decode cX6_countWithin 15 = .ok (.getfield 11, 3) := by decide +kernel
theorem dX6_countWithin_18 : decode cX6_countWithin 18 = .ok (.iload_n 3, 1) := by decide +kernel
theorem dX6_countWithin_19 : decode cX6_countWithin 19 = .ok (.aload_n 1, 1) := by decide +kernel
theorem dX6_countWithin_20 : decode cX6_countWithin 20 = .ok (.iload_n 3, 1) := by decide +kernel
theorem dX6_countWithin_21 : decode cX6_countWithin 21 = .ok (.invokevirtual 68, 3) := by decide +kernel
theorem dX6_countWithin_24 : decode cX6_countWithin 24 = .ok (.ifCond .eq 7, 3) := by decide +kernel
theorem dX6_countWithin_27 : decode cX6_countWithin 27 = .ok (.iconst 1, 1) := by decide +kernel
theorem dX6_countWithin_28 : decode cX6_countWithin 28 = .ok (.goto 4, 3) := by decide +kernel
theorem dX6_countWithin_31 : decode cX6_countWithin 31 = .ok (.iconst 0, 1) := by decide +kernel
theorem dX6_countWithin_32 : decode cX6_countWithin 32 = .ok (.iastore, 1) := by decide +kernel
theorem dX6_countWithin_33 : decode cX6_countWithin 33 = .ok (.iinc 3 1, 3) := by decide +kernel
theorem dX6_countWithin_36 : decode cX6_countWithin 36 = .ok (.goto (-34), 3) := by decide +kernel
theorem dX6_countWithin_39 : decode cX6_countWithin 39 = .ok (.iconst 0, 1) := by decide +kernel
theorem dX6_countWithin_40 : decode cX6_countWithin 40 = .ok (.istore_n 3, 1) := by decide +kernel
theorem dX6_countWithin_41 : decode cX6_countWithin 41 = .ok (.iload_n 3, 1) := by decide +kernel
theorem dX6_countWithin_42 : decode cX6_countWithin 42 = .ok (.bipush 10, 2) := by decide +kernel
theorem dX6_countWithin_44 : decode cX6_countWithin 44 = .ok (.if_icmp .ge 62, 3) := by decide +kernel
theorem dX6_countWithin_47 : decode cX6_countWithin 47 = .ok (.iconst 0, 1) := by decide +kernel
theorem dX6_countWithin_48 : decode cX6_countWithin 48 = .ok (.istore 4, 2) := by decide +kernel
theorem dX6_countWithin_50 : decode cX6_countWithin 50 = .ok (.iload 4, 2) := by decide +kernel
theorem dX6_countWithin_52 : decode cX6_countWithin 52 = .ok (.iload_n 2, 1) := by decide +kernel
theorem dX6_countWithin_53 : decode cX6_countWithin 53 = .ok (.if_icmp .gt 47, 3) := by decide +kernel
theorem dX6_countWithin_56 : decode cX6_countWithin 56 = .ok (.iload 4, 2) := by decide +kernel
theorem dX6_countWithin_58 : decode cX6_countWithin 58 = .ok (.sipush 1024, 3) := by decide +kernel
theorem dX6_countWithin_61 : decode cX6_countWithin 61 = .ok (.if_icmp .ge 39, 3) := by decide +kernel
theorem dX6_countWithin_64 : decode cX6_countWithin 64 = .ok (.iload 4, 2) := by decide +kernel
theorem dX6_countWithin_66 : decode cX6_countWithin 66 = .ok (.iload_n 3, 1) := by decide +kernel
theorem dX6_countWithin_67 : decode cX6_countWithin 67 = .ok (.invokestatic 74, 3) := by decide +kernel
theorem dX6_countWithin_70 : decode cX6_countWithin 70 = .ok (.ifCond .eq 24, 3) := by decide +kernel
theorem dX6_countWithin_73 : decode cX6_countWithin 73 = .ok (.aload_n 0, 1) := by decide +kernel
theorem dX6_countWithin_74 : decode cX6_countWithin 74 = .ok (.getfield 11, 3) := by decide +kernel
theorem dX6_countWithin_77 : decode cX6_countWithin 77 = .ok (.iload 4, 2) := by decide +kernel
theorem dX6_countWithin_79 : decode cX6_countWithin 79 = .ok (.dup2, 1) := by decide +kernel
theorem dX6_countWithin_80 : decode cX6_countWithin 80 = .ok (.iaload, 1) := by decide +kernel
theorem dX6_countWithin_81 : decode cX6_countWithin 81 = .ok (.aload_n 0, 1) := by decide +kernel
theorem dX6_countWithin_82 : decode cX6_countWithin 82 = .ok (.getfield 11, 3) := by decide +kernel
theorem dX6_countWithin_85 : decode cX6_countWithin 85 = .ok (.iload 4, 2) := by decide +kernel
theorem dX6_countWithin_87 : decode cX6_countWithin 87 = .ok (.iconst 1, 1) := by decide +kernel
theorem dX6_countWithin_88 : decode cX6_countWithin 88 = .ok (.iload_n 3, 1) := by decide +kernel
theorem dX6_countWithin_89 : decode cX6_countWithin 89 = .ok (.ishl, 1) := by decide +kernel
theorem dX6_countWithin_90 : decode cX6_countWithin 90 = .ok (.ixor, 1) := by decide +kernel
theorem dX6_countWithin_91 : decode cX6_countWithin 91 = .ok (.iaload, 1) := by decide +kernel
theorem dX6_countWithin_92 : decode cX6_countWithin 92 = .ok (.iadd, 1) := by decide +kernel
theorem dX6_countWithin_93 : decode cX6_countWithin 93 = .ok (.iastore, 1) := by decide +kernel
theorem dX6_countWithin_94 : decode cX6_countWithin 94 = .ok (.iinc 4 1, 3) := by decide +kernel
theorem dX6_countWithin_97 : decode cX6_countWithin 97 = .ok (.goto (-47), 3) := by decide +kernel
theorem dX6_countWithin_100 : decode cX6_countWithin 100 = .ok (.iinc 3 1, 3) := by decide +kernel
theorem dX6_countWithin_103 : decode cX6_countWithin 103 = .ok (.goto (-62), 3) := by decide +kernel
theorem dX6_countWithin_106 : decode cX6_countWithin 106 = .ok (.return_, 1) := by decide +kernel
theorem dX6_raise_0 : decode cX6_raise 0 = .ok (.aload_n 0, 1) := by decide +kernel
theorem dX6_raise_1 : decode cX6_raise 1 = .ok (.getfield 18, 3) := by decide +kernel
theorem dX6_raise_4 : decode cX6_raise 4 = .ok (.lconst 0, 1) := by decide +kernel
theorem dX6_raise_5 : decode cX6_raise 5 = .ok (.invokestatic 51, 3) := by decide +kernel
theorem dX6_raise_8 : decode cX6_raise 8 = .ok (.aload_n 0, 1) := by decide +kernel
theorem dX6_raise_9 : decode cX6_raise 9 = .ok (.getfield 18, 3) := by decide +kernel
theorem dX6_raise_12 : decode cX6_raise 12 = .ok (.iconst 0, 1) := by decide +kernel
theorem dX6_raise_13 : decode cX6_raise 13 = .ok (.lconst 1, 1) := by decide +kernel
theorem dX6_raise_14 : decode cX6_raise 14 = .ok (.lastore, 1) := by decide +kernel
theorem dX6_raise_15 : decode cX6_raise 15 = .ok (.iconst 0, 1) := by decide +kernel
theorem dX6_raise_16 : decode cX6_raise 16 = .ok (.istore_n 3, 1) := by decide +kernel
theorem dX6_raise_17 : decode cX6_raise 17 = .ok (.iload_n 3, 1) := by decide +kernel
theorem dX6_raise_18 : decode cX6_raise 18 = .ok (.iload_n 2, 1) := by decide +kernel
theorem dX6_raise_19 : decode cX6_raise 19 = .ok (.if_icmp .ge 64, 3) := by decide +kernel
theorem dX6_raise_22 : decode cX6_raise 22 = .ok (.lconst 0, 1) := by decide +kernel
theorem dX6_raise_23 : decode cX6_raise 23 = .ok (.lstore 4, 2) := by decide +kernel
theorem dX6_raise_25 : decode cX6_raise 25 = .ok (.iconst 0, 1) := by decide +kernel
theorem dX6_raise_26 : decode cX6_raise 26 = .ok (.istore 6, 2) := by decide +kernel
theorem dX6_raise_28 : decode cX6_raise 28 = .ok (.iload 6, 2) := by decide +kernel
theorem dX6_raise_30 : decode cX6_raise 30 = .ok (.bipush 8, 2) := by decide +kernel
theorem dX6_raise_32 : decode cX6_raise 32 = .ok (.if_icmp .ge 45, 3) := by decide +kernel
theorem dX6_raise_35 : decode cX6_raise 35 = .ok (.aload_n 0, 1) := by decide +kernel
theorem dX6_raise_36 : decode cX6_raise 36 = .ok (.getfield 18, 3) := by decide +kernel
theorem dX6_raise_39 : decode cX6_raise 39 = .ok (.iload 6, 2) := by decide +kernel
theorem dX6_raise_41 : decode cX6_raise 41 = .ok (.laload, 1) := by decide +kernel
theorem dX6_raise_42 : decode cX6_raise 42 = .ok (.iload_n 1, 1) := by decide +kernel
theorem dX6_raise_43 : decode cX6_raise 43 = .ok (.i2l, 1) := by decide +kernel
theorem dX6_raise_44 : decode cX6_raise 44 = .ok (.lmul, 1) := by decide +kernel
theorem dX6_raise_45 : decode cX6_raise 45 = .ok (.lload 4, 2) := by decide +kernel
theorem dX6_raise_47 : decode cX6_raise 47 = .ok (.ladd, 1) := by decide +kernel
theorem dX6_raise_48 : decode cX6_raise 48 = .ok (.lstore 7, 2) := by decide +kernel
theorem dX6_raise_50 : decode cX6_raise 50 = .ok (.aload_n 0, 1) := by decide +kernel
theorem dX6_raise_51 : decode cX6_raise 51 = .ok (.getfield 18, 3) := by decide +kernel
theorem dX6_raise_54 : decode cX6_raise 54 = .ok (.iload 6, 2) := by decide +kernel
theorem dX6_raise_56 : decode cX6_raise 56 = .ok (.lload 7, 2) := by decide +kernel
theorem dX6_raise_58 : decode cX6_raise 58 = .ok (.ldc2_w 78, 3) := by decide +kernel
theorem dX6_raise_61 : decode cX6_raise 61 = .ok (.lrem, 1) := by decide +kernel
theorem dX6_raise_62 : decode cX6_raise 62 = .ok (.lastore, 1) := by decide +kernel
theorem dX6_raise_63 : decode cX6_raise 63 = .ok (.lload 7, 2) := by decide +kernel
theorem dX6_raise_65 : decode cX6_raise 65 = .ok (.ldc2_w 78, 3) := by decide +kernel
theorem dX6_raise_68 : decode cX6_raise 68 = .ok (.ldiv, 1) := by decide +kernel
theorem dX6_raise_69 : decode cX6_raise 69 = .ok (.lstore 4, 2) := by decide +kernel
theorem dX6_raise_71 : decode cX6_raise 71 = .ok (.iinc 6 1, 3) := by decide +kernel
theorem dX6_raise_74 : decode cX6_raise 74 = .ok (.goto (-46), 3) := by decide +kernel
theorem dX6_raise_77 : decode cX6_raise 77 = .ok (.iinc 3 1, 3) := by decide +kernel
theorem dX6_raise_80 : decode cX6_raise 80 = .ok (.goto (-63), 3) := by decide +kernel
theorem dX6_raise_83 : decode cX6_raise 83 = .ok (.return_, 1) := by decide +kernel
theorem dX6_addPower_0 : decode cX6_addPower 0 = .ok (.iconst 0, 1) := by decide +kernel
theorem dX6_addPower_1 : decode cX6_addPower 1 = .ok (.istore_n 2, 1) := by decide +kernel
theorem dX6_addPower_2 : decode cX6_addPower 2 = .ok (.iload_n 2, 1) := by decide +kernel
theorem dX6_addPower_3 : decode cX6_addPower 3 = .ok (.bipush 8, 2) := by decide +kernel
theorem dX6_addPower_5 : decode cX6_addPower 5 = .ok (.if_icmp .ge 27, 3) := by decide +kernel
theorem dX6_addPower_8 : decode cX6_addPower 8 = .ok (.aload_n 0, 1) := by decide +kernel
theorem dX6_addPower_9 : decode cX6_addPower 9 = .ok (.getfield 22, 3) := by decide +kernel
theorem dX6_addPower_12 : decode cX6_addPower 12 = .ok (.iload_n 2, 1) := by decide +kernel
theorem dX6_addPower_13 : decode cX6_addPower 13 = .ok (.dup2, 1) := by decide +kernel
theorem dX6_addPower_14 : decode cX6_addPower 14 = .ok (.laload, 1) := by decide +kernel
theorem dX6_addPower_15 : decode cX6_addPower 15 = .ok (.aload_n 0, 1) := by decide +kernel
theorem dX6_addPower_16 : decode cX6_addPower 16 = .ok (.getfield 18, 3) := by decide +kernel
theorem dX6_addPower_19 : decode cX6_addPower 19 = .ok (.iload_n 2, 1) := by decide +kernel
theorem dX6_addPower_20 : decode cX6_addPower 20 = .ok (.laload, 1) := by decide +kernel
theorem dX6_addPower_21 : decode cX6_addPower 21 = .ok (.iload_n 1, 1) := by decide +kernel
theorem dX6_addPower_22 : decode cX6_addPower 22 = .ok (.i2l, 1) := by decide +kernel
theorem dX6_addPower_23 : decode cX6_addPower 23 = .ok (.lmul, 1) := by decide +kernel
theorem dX6_addPower_24 : decode cX6_addPower 24 = .ok (.ladd, 1) := by decide +kernel
theorem dX6_addPower_25 : decode cX6_addPower 25 = .ok (.lastore, 1) := by decide +kernel
theorem dX6_addPower_26 : decode cX6_addPower 26 = .ok (.iinc 2 1, 3) := by decide +kernel
theorem dX6_addPower_29 : decode cX6_addPower 29 = .ok (.goto (-27), 3) := by decide +kernel
theorem dX6_addPower_32 : decode cX6_addPower 32 = .ok (.return_, 1) := by decide +kernel
theorem dX6_carry_0 : decode cX6_carry 0 = .ok (.lconst 0, 1) := by decide +kernel
theorem dX6_carry_1 : decode cX6_carry 1 = .ok (.lstore_n 1, 1) := by decide +kernel
theorem dX6_carry_2 : decode cX6_carry 2 = .ok (.iconst 0, 1) := by decide +kernel
theorem dX6_carry_3 : decode cX6_carry 3 = .ok (.istore_n 3, 1) := by decide +kernel
theorem dX6_carry_4 : decode cX6_carry 4 = .ok (.iload_n 3, 1) := by decide +kernel
theorem dX6_carry_5 : decode cX6_carry 5 = .ok (.bipush 8, 2) := by decide +kernel
theorem dX6_carry_7 : decode cX6_carry 7 = .ok (.if_icmp .ge 42, 3) := by decide +kernel
theorem dX6_carry_10 : decode cX6_carry 10 = .ok (.aload_n 0, 1) := by decide +kernel
theorem dX6_carry_11 : decode cX6_carry 11 = .ok (.getfield 22, 3) := by decide +kernel
theorem dX6_carry_14 : decode cX6_carry 14 = .ok (.iload_n 3, 1) := by decide +kernel
theorem dX6_carry_15 : decode cX6_carry 15 = .ok (.laload, 1) := by decide +kernel
theorem dX6_carry_16 : decode cX6_carry 16 = .ok (.lload_n 1, 1) := by decide +kernel
theorem dX6_carry_17 : decode cX6_carry 17 = .ok (.ladd, 1) := by decide +kernel
theorem dX6_carry_18 : decode cX6_carry 18 = .ok (.lstore 4, 2) := by decide +kernel
theorem dX6_carry_20 : decode cX6_carry 20 = .ok (.aload_n 0, 1) := by decide +kernel
theorem dX6_carry_21 : decode cX6_carry 21 = .ok (.getfield 22, 3) := by decide +kernel
theorem dX6_carry_24 : decode cX6_carry 24 = .ok (.iload_n 3, 1) := by decide +kernel
theorem dX6_carry_25 : decode cX6_carry 25 = .ok (.lload 4, 2) := by decide +kernel
theorem dX6_carry_27 : decode cX6_carry 27 = .ok (.ldc2_w 78, 3) := by decide +kernel
theorem dX6_carry_30 : decode cX6_carry 30 = .ok (.invokestatic 80, 3) := by decide +kernel
theorem dX6_carry_33 : decode cX6_carry 33 = .ok (.lastore, 1) := by decide +kernel
theorem dX6_carry_34 : decode cX6_carry 34 = .ok (.lload 4, 2) := by decide +kernel
theorem dX6_carry_36 : decode cX6_carry 36 = .ok (.ldc2_w 78, 3) := by decide +kernel
theorem dX6_carry_39 : decode cX6_carry 39 = .ok (.invokestatic 84, 3) := by decide +kernel
theorem dX6_carry_42 : decode cX6_carry 42 = .ok (.lstore_n 1, 1) := by decide +kernel
theorem dX6_carry_43 : decode cX6_carry 43 = .ok (.iinc 3 1, 3) := by decide +kernel
theorem dX6_carry_46 : decode cX6_carry 46 = .ok (.goto (-42), 3) := by decide +kernel
theorem dX6_carry_49 : decode cX6_carry 49 = .ok (.return_, 1) := by decide +kernel
theorem dX6_writeDigits_0 : decode cX6_writeDigits 0 = .ok (.iconst 0, 1) := by decide +kernel
theorem dX6_writeDigits_1 : decode cX6_writeDigits 1 = .ok (.istore_n 1, 1) := by decide +kernel
theorem dX6_writeDigits_2 : decode cX6_writeDigits 2 = .ok (.iload_n 1, 1) := by decide +kernel
theorem dX6_writeDigits_3 : decode cX6_writeDigits 3 = .ok (.bipush 8, 2) := by decide +kernel
theorem dX6_writeDigits_5 : decode cX6_writeDigits 5 = .ok (.if_icmp .ge 57, 3) := by decide +kernel
theorem dX6_writeDigits_8 : decode cX6_writeDigits 8 = .ok (.aload_n 0, 1) := by decide +kernel
theorem dX6_writeDigits_9 : decode cX6_writeDigits 9 = .ok (.getfield 22, 3) := by decide +kernel
theorem dX6_writeDigits_12 : decode cX6_writeDigits 12 = .ok (.iload_n 1, 1) := by decide +kernel
theorem dX6_writeDigits_13 : decode cX6_writeDigits 13 = .ok (.laload, 1) := by decide +kernel
theorem dX6_writeDigits_14 : decode cX6_writeDigits 14 = .ok (.lstore_n 2, 1) := by decide +kernel
theorem dX6_writeDigits_15 : decode cX6_writeDigits 15 = .ok (.iconst 0, 1) := by decide +kernel
theorem dX6_writeDigits_16 : decode cX6_writeDigits 16 = .ok (.istore 4, 2) := by decide +kernel
theorem dX6_writeDigits_18 : decode cX6_writeDigits 18 = .ok (.iload 4, 2) := by decide +kernel
theorem dX6_writeDigits_20 : decode cX6_writeDigits 20 = .ok (.bipush 9, 2) := by decide +kernel
theorem dX6_writeDigits_22 : decode cX6_writeDigits 22 = .ok (.if_icmp .ge 34, 3) := by decide +kernel
theorem dX6_writeDigits_25 : decode cX6_writeDigits 25 = .ok (.aload_n 0, 1) := by decide +kernel
theorem dX6_writeDigits_26 : decode cX6_writeDigits 26 = .ok (.getfield 25, 3) := by decide +kernel
theorem dX6_writeDigits_29 : decode cX6_writeDigits 29 = .ok (.iload_n 1, 1) := by decide +kernel
theorem dX6_writeDigits_30 : decode cX6_writeDigits 30 = .ok (.bipush 9, 2) := by decide +kernel
theorem dX6_writeDigits_32 : decode cX6_writeDigits 32 = .ok (.imul, 1) := by decide +kernel
theorem dX6_writeDigits_33 : decode cX6_writeDigits 33 = .ok (.iload 4, 2) := by decide +kernel
theorem dX6_writeDigits_35 : decode cX6_writeDigits 35 = .ok (.iadd, 1) := by decide +kernel
theorem dX6_writeDigits_36 : decode cX6_writeDigits 36 = .ok (.lload_n 2, 1) := by decide +kernel
theorem dX6_writeDigits_37 : decode cX6_writeDigits 37 = .ok (.ldc2_w 87, 3) := by decide +kernel
theorem dX6_writeDigits_40 : decode cX6_writeDigits 40 = .ok (.lrem, 1) := by decide +kernel
theorem dX6_writeDigits_41 : decode cX6_writeDigits 41 = .ok (.l2i, 1) := by decide +kernel
theorem dX6_writeDigits_42 : decode cX6_writeDigits 42 = .ok (.i2b, 1) := by decide +kernel
theorem dX6_writeDigits_43 : decode cX6_writeDigits 43 = .ok (.bastore, 1) := by decide +kernel
theorem dX6_writeDigits_44 : decode cX6_writeDigits 44 = .ok (.lload_n 2, 1) := by decide +kernel
theorem dX6_writeDigits_45 : decode cX6_writeDigits 45 = .ok (.ldc2_w 87, 3) := by decide +kernel
theorem dX6_writeDigits_48 : decode cX6_writeDigits 48 = .ok (.ldiv, 1) := by decide +kernel
theorem dX6_writeDigits_49 : decode cX6_writeDigits 49 = .ok (.lstore_n 2, 1) := by decide +kernel
theorem dX6_writeDigits_50 : decode cX6_writeDigits 50 = .ok (.iinc 4 1, 3) := by decide +kernel
theorem dX6_writeDigits_53 : decode cX6_writeDigits 53 = .ok (.goto (-35), 3) := by decide +kernel
theorem dX6_writeDigits_56 : decode cX6_writeDigits 56 = .ok (.iinc 1 1, 3) := by decide +kernel
theorem dX6_writeDigits_59 : decode cX6_writeDigits 59 = .ok (.goto (-57), 3) := by decide +kernel
theorem dX6_writeDigits_62 : decode cX6_writeDigits 62 = .ok (.return_, 1) := by decide +kernel
theorem dX6_digitsUsed_0 : decode cX6_digitsUsed 0 = .ok (.bipush 71, 2) := by decide +kernel
theorem dX6_digitsUsed_2 : decode cX6_digitsUsed 2 = .ok (.istore_n 1, 1) := by decide +kernel
theorem dX6_digitsUsed_3 : decode cX6_digitsUsed 3 = .ok (.iload_n 1, 1) := by decide +kernel
theorem dX6_digitsUsed_4 : decode cX6_digitsUsed 4 = .ok (.ifCond .le 22, 3) := by decide +kernel
theorem dX6_digitsUsed_7 : decode cX6_digitsUsed 7 = .ok (.aload_n 0, 1) := by decide +kernel
theorem dX6_digitsUsed_8 : decode cX6_digitsUsed 8 = .ok (.getfield 25, 3) := by decide +kernel
theorem dX6_digitsUsed_11 : decode cX6_digitsUsed 11 = .ok (.iload_n 1, 1) := by decide +kernel
theorem dX6_digitsUsed_12 : decode cX6_digitsUsed 12 = .ok (.baload, 1) := by decide +kernel
theorem dX6_digitsUsed_13 : decode cX6_digitsUsed 13 = .ok (.ifCond .eq 7, 3) := by decide +kernel
theorem dX6_digitsUsed_16 : decode cX6_digitsUsed 16 = .ok (.iload_n 1, 1) := by decide +kernel
theorem dX6_digitsUsed_17 : decode cX6_digitsUsed 17 = .ok (.iconst 1, 1) := by decide +kernel
theorem dX6_digitsUsed_18 : decode cX6_digitsUsed 18 = .ok (.iadd, 1) := by decide +kernel
theorem dX6_digitsUsed_19 : decode cX6_digitsUsed 19 = .ok (.ireturn, 1) := by decide +kernel
theorem dX6_digitsUsed_20 : decode cX6_digitsUsed 20 = .ok (.iinc 1 (-1), 3) := by decide +kernel
theorem dX6_digitsUsed_23 : decode cX6_digitsUsed 23 = .ok (.goto (-20), 3) := by decide +kernel
theorem dX6_digitsUsed_26 : decode cX6_digitsUsed 26 = .ok (.iconst 1, 1) := by decide +kernel
theorem dX6_digitsUsed_27 : decode cX6_digitsUsed 27 = .ok (.ireturn, 1) := by decide +kernel
theorem dX6_digitAt_0 : decode cX6_digitAt 0 = .ok (.iload_n 1, 1) := by decide +kernel
theorem dX6_digitAt_1 : decode cX6_digitAt 1 = .ok (.ifCond .lt 18, 3) := by decide +kernel
theorem dX6_digitAt_4 : decode cX6_digitAt 4 = .ok (.iload_n 1, 1) := by decide +kernel
theorem dX6_digitAt_5 : decode cX6_digitAt 5 = .ok (.bipush 72, 2) := by decide +kernel
theorem dX6_digitAt_7 : decode cX6_digitAt 7 = .ok (.if_icmp .ge 12, 3) := by decide +kernel
theorem dX6_digitAt_10 : decode cX6_digitAt 10 = .ok (.aload_n 0, 1) := by decide +kernel
theorem dX6_digitAt_11 : decode cX6_digitAt 11 = .ok (.getfield 25, 3) := by decide +kernel
theorem dX6_digitAt_14 : decode cX6_digitAt 14 = .ok (.iload_n 1, 1) := by decide +kernel
theorem dX6_digitAt_15 : decode cX6_digitAt 15 = .ok (.baload, 1) := by decide +kernel
theorem dX6_digitAt_16 : decode cX6_digitAt 16 = .ok (.goto 4, 3) := by decide +kernel
theorem dX6_digitAt_19 : decode cX6_digitAt 19 = .ok (.iconst 0, 1) := by decide +kernel
theorem dX6_digitAt_20 : decode cX6_digitAt 20 = .ok (.ireturn, 1) := by decide +kernel
theorem dX7_init_0 : decode cX7_init 0 = .ok (.aload_n 0, 1) := by decide +kernel
theorem dX7_init_1 : decode cX7_init 1 = .ok (.invokespecial 3, 3) := by decide +kernel
theorem dX7_init_4 : decode cX7_init 4 = .ok (.aload_n 0, 1) := by decide +kernel
theorem dX7_init_5 : decode cX7_init 5 = .ok (.new 9, 3) := by decide +kernel
theorem dX7_init_8 : decode cX7_init 8 = .ok (.dup, 1) := by decide +kernel
theorem dX7_init_9 : decode cX7_init 9 = .ok (.invokespecial 11, 3) := by decide +kernel
theorem dX7_init_12 : decode cX7_init 12 = .ok (.putfield 12, 3) := by decide +kernel
theorem dX7_init_15 : decode cX7_init 15 = .ok (.aload_n 0, 1) := by decide +kernel
theorem dX7_init_16 : decode cX7_init 16 = .ok (.new 16, 3) := by decide +kernel
theorem dX7_init_19 : decode cX7_init 19 = .ok (.dup, 1) := by decide +kernel
theorem dX7_init_20 : decode cX7_init 20 = .ok (.invokespecial 18, 3) := by decide +kernel
theorem dX7_init_23 : decode cX7_init 23 = .ok (.putfield 19, 3) := by decide +kernel
theorem dX7_init_26 : decode cX7_init 26 = .ok (.aload_n 0, 1) := by decide +kernel
theorem dX7_init_27 : decode cX7_init 27 = .ok (.new 23, 3) := by decide +kernel
theorem dX7_init_30 : decode cX7_init 30 = .ok (.dup, 1) := by decide +kernel
theorem dX7_init_31 : decode cX7_init 31 = .ok (.invokespecial 25, 3) := by decide +kernel
theorem dX7_init_34 : decode cX7_init 34 = .ok (.putfield 26, 3) := by decide +kernel
theorem dX7_init_37 : decode cX7_init 37 = .ok (.aload_n 0, 1) := by decide +kernel
theorem dX7_init_38 : decode cX7_init 38 = .ok (.new 30, 3) := by decide +kernel
theorem dX7_init_41 : decode cX7_init 41 = .ok (.dup, 1) := by decide +kernel
theorem dX7_init_42 : decode cX7_init 42 = .ok (.invokespecial 32, 3) := by decide +kernel
theorem dX7_init_45 : decode cX7_init 45 = .ok (.putfield 33, 3) := by decide +kernel
theorem dX7_init_48 : decode cX7_init 48 = .ok (.aload_n 0, 1) := by decide +kernel
theorem dX7_init_49 : decode cX7_init 49 = .ok (.bipush 10, 2) := by decide +kernel
theorem dX7_init_51 : decode cX7_init 51 = .ok (.newarray .int, 2) := by decide +kernel
theorem dX7_init_53 : decode cX7_init 53 = .ok (.putfield 37, 3) := by decide +kernel
theorem dX7_init_56 : decode cX7_init 56 = .ok (.aload_n 0, 1) := by decide +kernel
theorem dX7_init_57 : decode cX7_init 57 = .ok (.iconst (-1), 1) := by decide +kernel
theorem dX7_init_58 : decode cX7_init 58 = .ok (.putfield 41, 3) := by decide +kernel
theorem dX7_init_61 : decode cX7_init 61 = .ok (.return_, 1) := by decide +kernel
theorem dX7_terms_0 : decode cX7_terms 0 = .ok (.iload_n 1, 1) := by decide +kernel
theorem dX7_terms_1 : decode cX7_terms 1 = .ok (.i2l, 1) := by decide +kernel
theorem dX7_terms_2 : decode cX7_terms 2 = .ok (.lconst 1, 1) := by decide +kernel
theorem dX7_terms_3 : decode cX7_terms 3 = .ok (.ldc2_w 45, 3) := by decide +kernel
theorem dX7_terms_6 : decode cX7_terms 6 = .ok (.invokestatic 47, 3) := by decide +kernel
theorem dX7_terms_9 : decode cX7_terms 9 = .ok (.ifCond .eq 44, 3) := by decide +kernel
theorem dX7_terms_12 : decode cX7_terms 12 = .ok (.iload_n 2, 1) := by decide +kernel
theorem dX7_terms_13 : decode cX7_terms 13 = .ok (.i2l, 1) := by decide +kernel
theorem dX7_terms_14 : decode cX7_terms 14 = .ok (.lconst 1, 1) := by decide +kernel
theorem dX7_terms_15 : decode cX7_terms 15 = .ok (.ldc2_w 51, 3) := by decide +kernel
theorem dX7_terms_18 : decode cX7_terms 18 = .ok (.invokestatic 47, 3) := by decide +kernel
theorem dX7_terms_21 : decode cX7_terms 21 = .ok (.ifCond .eq 32, 3) := by decide +kernel
theorem dX7_terms_24 : decode cX7_terms 24 = .ok (.iload_n 3, 1) := by decide +kernel
theorem dX7_terms_25 : decode cX7_terms 25 = .ok (.i2l, 1) := by decide +kernel
theorem dX7_terms_26 : decode cX7_terms 26 = .ok (.lconst 1, 1) := by decide +kernel
theorem dX7_terms_27 : decode cX7_terms 27 = .ok (.ldc2_w 53, 3) := by decide +kernel
theorem dX7_terms_30 : decode cX7_terms 30 = .ok (.invokestatic 47, 3) := by decide +kernel
theorem dX7_terms_33 : decode cX7_terms 33 = .ok (.ifCond .eq 20, 3) := by decide +kernel
theorem dX7_terms_36 : decode cX7_terms 36 = .ok (.iload 4, 2) := by decide +kernel
theorem dX7_terms_38 : decode cX7_terms 38 = .ok (.i2l, 1) := by decide +kernel
theorem dX7_terms_39 : decode cX7_terms 39 = .ok (.lconst 0, 1) := by decide +kernel
theorem dX7_terms_40 : decode cX7_terms 40 = .ok (.ldc2_w 55, 3) := by decide +kernel
theorem dX7_terms_43 : decode cX7_terms 43 = .ok (.invokestatic 47, 3) := by decide +kernel
theorem dX7_terms_46 : decode cX7_terms 46 = .ok (.ifCond .eq 7, 3) := by decide +kernel
theorem dX7_terms_49 : decode cX7_terms 49 = .ok (.iconst 1, 1) := by decide +kernel
theorem dX7_terms_50 : decode cX7_terms 50 = .ok (.goto 4, 3) := by decide +kernel
theorem dX7_terms_53 : decode cX7_terms 53 = .ok (.iconst 0, 1) := by decide +kernel
theorem dX7_terms_54 : decode cX7_terms 54 = .ok (.istore 5, 2) := by decide +kernel
theorem dX7_terms_56 : decode cX7_terms 56 = .ok (.iload 5, 2) := by decide +kernel
theorem dX7_terms_58 : decode cX7_terms 58 = .ok (.ifCond .ne 6, 3) := by decide +kernel
theorem dX7_terms_61 : decode cX7_terms 61 = .ok (.bipush (-2), 2) := by decide +kernel
theorem dX7_terms_63 : decode cX7_terms 63 = .ok (.ireturn, 1) := by decide +kernel
theorem dX7_terms_64 : decode cX7_terms 64 = .ok (.aload_n 0, 1) := by decide +kernel
theorem dX7_terms_65 : decode cX7_terms 65 = .ok (.getfield 12, 3) := by decide +kernel
theorem dX7_terms_68 : decode cX7_terms 68 = .ok (.iload_n 1, 1) := by decide +kernel
theorem dX7_terms_69 : decode cX7_terms 69 = .ok (.putfield 57, 3) := by decide +kernel
theorem dX7_terms_72 : decode cX7_terms 72 = .ok (.aload_n 0, 1) := by decide +kernel
theorem dX7_terms_73 : decode cX7_terms 73 = .ok (.getfield 12, 3) := by decide +kernel
theorem dX7_terms_76 : decode cX7_terms 76 = .ok (.iload_n 2, 1) := by decide +kernel
theorem dX7_terms_77 : decode cX7_terms 77 = .ok (.putfield 60, 3) := by decide +kernel
theorem dX7_terms_80 : decode cX7_terms 80 = .ok (.aload_n 0, 1) := by decide +kernel
theorem dX7_terms_81 : decode cX7_terms 81 = .ok (.getfield 12, 3) := by decide +kernel
theorem dX7_terms_84 : decode cX7_terms 84 = .ok (.iload_n 3, 1) := by decide +kernel
theorem dX7_terms_85 : decode cX7_terms 85 = .ok (.putfield 63, 3) := by decide +kernel
theorem dX7_terms_88 : decode cX7_terms 88 = .ok (.aload_n 0, 1) := by decide +kernel
theorem dX7_terms_89 : decode cX7_terms 89 = .ok (.getfield 12, 3) := by decide +kernel
theorem dX7_terms_92 : decode cX7_terms 92 = .ok (.iload 4, 2) := by decide +kernel
theorem dX7_terms_94 : decode cX7_terms 94 = .ok (.putfield 66, 3) := by decide +kernel
theorem dX7_terms_97 : decode cX7_terms 97 = .ok (.iconst 0, 1) := by decide +kernel
theorem dX7_terms_98 : decode cX7_terms 98 = .ok (.ireturn, 1) := by decide +kernel
theorem dX7_cell_0 : decode cX7_cell 0 = .ok (.iload_n 1, 1) := by decide +kernel
theorem dX7_cell_1 : decode cX7_cell 1 = .ok (.i2l, 1) := by decide +kernel
theorem dX7_cell_2 : decode cX7_cell 2 = .ok (.lconst 1, 1) := by decide +kernel
theorem dX7_cell_3 : decode cX7_cell 3 = .ok (.ldc2_w 69, 3) := by decide +kernel
theorem dX7_cell_6 : decode cX7_cell 6 = .ok (.invokestatic 47, 3) := by decide +kernel
theorem dX7_cell_9 : decode cX7_cell 9 = .ok (.ifCond .eq 39, 3) := by decide +kernel
theorem dX7_cell_12 : decode cX7_cell 12 = .ok (.iload_n 2, 1) := by decide +kernel
theorem dX7_cell_13 : decode cX7_cell 13 = .ok (.i2l, 1) := by decide +kernel
theorem dX7_cell_14 : decode cX7_cell 14 = .ok (.lconst 1, 1) := by decide +kernel
theorem dX7_cell_15 : decode cX7_cell 15 = .ok (.ldc2_w 51, 3) := by decide +kernel
theorem dX7_cell_18 : decode cX7_cell 18 = .ok (.invokestatic 47, 3) := by decide +kernel
theorem dX7_cell_21 : decode cX7_cell 21 = .ok (.ifCond .eq 27, 3) := by decide +kernel
theorem dX7_cell_24 : decode cX7_cell 24 = .ok (.iload_n 3, 1) := by decide +kernel
theorem dX7_cell_25 : decode cX7_cell 25 = .ok (.i2l, 1) := by decide +kernel
theorem dX7_cell_26 : decode cX7_cell 26 = .ok (.lconst 1, 1) := by decide +kernel
theorem dX7_cell_27 : decode cX7_cell 27 = .ok (.ldc2_w 55, 3) := by decide +kernel
theorem dX7_cell_30 : decode cX7_cell 30 = .ok (.invokestatic 47, 3) := by decide +kernel
theorem dX7_cell_33 : decode cX7_cell 33 = .ok (.ifCond .eq 15, 3) := by decide +kernel
theorem dX7_cell_36 : decode cX7_cell 36 = .ok (.iload 4, 2) := by decide +kernel
theorem dX7_cell_38 : decode cX7_cell 38 = .ok (.invokestatic 71, 3) := by decide +kernel
theorem dX7_cell_41 : decode cX7_cell 41 = .ok (.ifCond .eq 7, 3) := by decide +kernel
theorem dX7_cell_44 : decode cX7_cell 44 = .ok (.iconst 1, 1) := by decide +kernel
theorem dX7_cell_45 : decode cX7_cell 45 = .ok (.goto 4, 3) := by decide +kernel
theorem dX7_cell_48 : decode cX7_cell 48 = .ok (.iconst 0, 1) := by decide +kernel
theorem dX7_cell_49 : decode cX7_cell 49 = .ok (.istore 5, 2) := by decide +kernel
theorem dX7_cell_51 : decode cX7_cell 51 = .ok (.iload 5, 2) := by decide +kernel
theorem dX7_cell_53 : decode cX7_cell 53 = .ok (.ifCond .ne 6, 3) := by decide +kernel
theorem dX7_cell_56 : decode cX7_cell 56 = .ok (.bipush (-2), 2) := by decide +kernel
theorem dX7_cell_58 : decode cX7_cell 58 = .ok (.ireturn, 1) := by decide +kernel
theorem dX7_cell_59 : decode cX7_cell 59 = .ok (.aload_n 0, 1) := by decide +kernel
theorem dX7_cell_60 : decode cX7_cell 60 = .ok (.getfield 12, 3) := by decide +kernel
theorem dX7_cell_63 : decode cX7_cell 63 = .ok (.getfield 75, 3) := by decide +kernel
theorem dX7_cell_66 : decode cX7_cell 66 = .ok (.bipush 10, 2) := by decide +kernel
theorem dX7_cell_68 : decode cX7_cell 68 = .ok (.if_icmp .lt 6, 3) := by decide +kernel
theorem dX7_cell_71 : decode cX7_cell 71 = .ok (.bipush (-3), 2) := by decide +kernel
theorem dX7_cell_73 : decode cX7_cell 73 = .ok (.ireturn, 1) := by decide +kernel
theorem dX7_cell_74 : decode cX7_cell 74 = .ok (.aload_n 0, 1) := by decide +kernel
theorem dX7_cell_75 : decode cX7_cell 75 = .ok (.getfield 12, 3) := by decide +kernel
theorem dX7_cell_78 : decode cX7_cell 78 = .ok (.getfield 78, 3) := by decide +kernel
theorem dX7_cell_81 : decode cX7_cell 81 = .ok (.aload_n 0, 1) := by decide +kernel
theorem dX7_cell_82 : decode cX7_cell 82 = .ok (.getfield 12, 3) := by decide +kernel
theorem dX7_cell_85 : decode cX7_cell 85 = .ok (.getfield 75, 3) := by decide +kernel
theorem dX7_cell_88 : decode cX7_cell 88 = .ok (.new 82, 3) := by decide +kernel
theorem dX7_cell_91 : decode cX7_cell 91 = .ok (.dup, 1) := by decide +kernel
theorem dX7_cell_92 : decode cX7_cell 92 = .ok (.iload_n 1, 1) := by decide +kernel
theorem dX7_cell_93 : decode cX7_cell 93 = .ok (.iload_n 2, 1) := by decide +kernel
theorem dX7_cell_94 : decode cX7_cell 94 = .ok (.iload_n 3, 1) := by decide +kernel
theorem dX7_cell_95 : decode cX7_cell 95 = .ok (.iload 4, 2) := by decide +kernel
theorem dX7_cell_97 : decode cX7_cell 97 = .ok (.invokespecial 84, 3) := by decide +kernel
theorem dX7_cell_100 : decode cX7_cell 100 = .ok (.aastore, 1) := by decide +kernel
theorem dX7_cell_101 : decode cX7_cell 101 = .ok (.aload_n 0, 1) := by decide +kernel
theorem dX7_cell_102 : decode cX7_cell 102 = .ok (.getfield 12, 3) := by decide +kernel
theorem dX7_cell_105 : decode cX7_cell 105 = .ok (.dup, 1) := by decide +kernel
theorem dX7_cell_106 : decode cX7_cell 106 = .ok (.getfield 75, 3) := by decide +kernel
theorem dX7_cell_109 : decode cX7_cell 109 = .ok (.iconst 1, 1) := by decide +kernel
theorem dX7_cell_110 : decode cX7_cell 110 = .ok (.iadd, 1) := by decide +kernel
theorem dX7_cell_111 : decode cX7_cell 111 = .ok (.putfield 75, 3) := by decide +kernel
theorem dX7_cell_114 : decode cX7_cell 114 = .ok (.aload_n 0, 1) := by decide +kernel
theorem dX7_cell_115 : decode cX7_cell 115 = .ok (.getfield 12, 3) := by decide +kernel
theorem dX7_cell_118 : decode cX7_cell 118 = .ok (.getfield 75, 3) := by decide +kernel
theorem dX7_cell_121 : decode cX7_cell 121 = .ok (.iconst 1, 1) := by decide +kernel
theorem dX7_cell_122 : decode cX7_cell 122 = .ok (.isub, 1) := by decide +kernel
theorem dX7_cell_123 : decode cX7_cell 123 = .ok (.ireturn, 1) := by decide +kernel
theorem dX7_forbid_0 : decode cX7_forbid 0 = .ok (.aload_n 0, 1) := by decide +kernel
theorem dX7_forbid_1 : decode cX7_forbid 1 = .ok (.getfield 12, 3) := by decide +kernel
theorem dX7_forbid_4 : decode cX7_forbid 4 = .ok (.iload_n 1, 1) := by decide +kernel
theorem dX7_forbid_5 : decode cX7_forbid 5 = .ok (.invokevirtual 87, 3) := by decide +kernel
theorem dX7_forbid_8 : decode cX7_forbid 8 = .ok (.ifCond .eq 19, 3) := by decide +kernel
theorem dX7_forbid_11 : decode cX7_forbid 11 = .ok (.aload_n 0, 1) := by decide +kernel
theorem dX7_forbid_12 : decode cX7_forbid 12 = .ok (.getfield 12, 3) := by decide +kernel
theorem dX7_forbid_15 : decode cX7_forbid 15 = .ok (.iload_n 2, 1) := by decide +kernel
theorem dX7_forbid_16 : decode cX7_forbid 16 = .ok (.invokevirtual 87, 3) := by decide +kernel
theorem dX7_forbid_19 : decode cX7_forbid 19 = .ok (.ifCond .eq 8, 3) := by decide +kernel
theorem dX7_forbid_22 : decode cX7_forbid 22 = .ok (.iload_n 1, 1) := by decide +kernel
theorem dX7_forbid_23 : decode cX7_forbid 23 = .ok (.iload_n 2, 1) := by decide +kernel
theorem dX7_forbid_24 : decode cX7_forbid 24 = .ok (.if_icmp .ne 5, 3) := by decide +kernel
theorem dX7_forbid_27 : decode cX7_forbid 27 = .ok (.iconst 0, 1) := by decide +kernel
theorem dX7_forbid_28 : decode cX7_forbid 28 = .ok (.ireturn, 1) := by decide +kernel
theorem dX7_forbid_29 : decode cX7_forbid 29 = .ok (.aload_n 0, 1) := by decide +kernel
theorem dX7_forbid_30 : decode cX7_forbid 30 = .ok (.getfield 12, 3) := by decide +kernel
theorem dX7_forbid_33 : decode cX7_forbid 33 = .ok (.getfield 78, 3) := by decide +kernel
theorem dX7_forbid_36 : decode cX7_forbid 36 = .ok (.iload_n 1, 1) := by decide +kernel
theorem dX7_forbid_37 : decode cX7_forbid 37 = .ok (.aaload, 1) := by decide +kernel
theorem dX7_forbid_38 : decode cX7_forbid 38 = .ok (.getfield 90, 3) := by decide +kernel
theorem dX7_forbid_41 : decode cX7_forbid 41 = .ok (.iload_n 2, 1) := by decide +kernel
theorem dX7_forbid_42 : decode cX7_forbid 42 = .ok (.invokestatic 93, 3) := by decide +kernel
theorem dX7_forbid_45 : decode cX7_forbid 45 = .ok (.iload_n 3, 1) := by decide +kernel
theorem dX7_forbid_46 : decode cX7_forbid 46 = .ok (.if_icmp .ne 5, 3) := by decide +kernel
theorem dX7_forbid_49 : decode cX7_forbid 49 = .ok (.iconst 0, 1) := by decide +kernel
theorem dX7_forbid_50 : decode cX7_forbid 50 = .ok (.ireturn, 1) := by decide +kernel
theorem dX7_forbid_51 : decode cX7_forbid 51 = .ok (.aload_n 0, 1) := by decide +kernel
theorem dX7_forbid_52 : decode cX7_forbid 52 = .ok (.getfield 12, 3) := by decide +kernel
theorem dX7_forbid_55 : decode cX7_forbid 55 = .ok (.getfield 78, 3) := by decide +kernel
theorem dX7_forbid_58 : decode cX7_forbid 58 = .ok (.iload_n 1, 1) := by decide +kernel
theorem dX7_forbid_59 : decode cX7_forbid 59 = .ok (.aaload, 1) := by decide +kernel
theorem dX7_forbid_60 : decode cX7_forbid 60 = .ok (.dup, 1) := by decide +kernel
theorem dX7_forbid_61 : decode cX7_forbid 61 = .ok (.getfield 90, 3) := by decide +kernel
theorem dX7_forbid_64 : decode cX7_forbid 64 = .ok (.iconst 1, 1) := by decide +kernel
theorem dX7_forbid_65 : decode cX7_forbid 65 = .ok (.iload_n 2, 1) := by decide +kernel
theorem dX7_forbid_66 : decode cX7_forbid 66 = .ok (.ishl, 1) := by decide +kernel
theorem dX7_forbid_67 : decode cX7_forbid 67 = .ok (.ixor, 1) := by decide +kernel
theorem dX7_forbid_68 : decode cX7_forbid 68 = .ok (.putfield 90, 3) := by decide +kernel
theorem dX7_forbid_71 : decode cX7_forbid 71 = .ok (.aload_n 0, 1) := by decide +kernel
theorem dX7_forbid_72 : decode cX7_forbid 72 = .ok (.getfield 12, 3) := by decide +kernel
theorem dX7_forbid_75 : decode cX7_forbid 75 = .ok (.getfield 78, 3) := by decide +kernel
theorem dX7_forbid_78 : decode cX7_forbid 78 = .ok (.iload_n 2, 1) := by decide +kernel
theorem dX7_forbid_79 : decode cX7_forbid 79 = .ok (.aaload, 1) := by decide +kernel
theorem dX7_forbid_80 : decode cX7_forbid 80 = .ok (.dup, 1) := by decide +kernel
theorem dX7_forbid_81 : decode cX7_forbid 81 = .ok (.getfield 90, 3) := by decide +kernel
theorem dX7_forbid_84 : decode cX7_forbid 84 = .ok (.iconst 1, 1) := by decide +kernel
theorem dX7_forbid_85 : decode cX7_forbid 85 = .ok (.iload_n 1, 1) := by decide +kernel
theorem dX7_forbid_86 : decode cX7_forbid 86 = .ok (.ishl, 1) := by decide +kernel
theorem dX7_forbid_87 : decode cX7_forbid 87 = .ok (.ixor, 1) := by decide +kernel
theorem dX7_forbid_88 : decode cX7_forbid 88 = .ok (.putfield 90, 3) := by decide +kernel
theorem dX7_forbid_91 : decode cX7_forbid 91 = .ok (.iconst 1, 1) := by decide +kernel
theorem dX7_forbid_92 : decode cX7_forbid 92 = .ok (.ireturn, 1) := by decide +kernel
theorem dX7_rain_0 : decode cX7_rain 0 = .ok (.aload_n 0, 1) := by decide +kernel
theorem dX7_rain_1 : decode cX7_rain 1 = .ok (.getfield 12, 3) := by decide +kernel
theorem dX7_rain_4 : decode cX7_rain 4 = .ok (.iload_n 1, 1) := by decide +kernel
theorem dX7_rain_5 : decode cX7_rain 5 = .ok (.invokevirtual 87, 3) := by decide +kernel
theorem dX7_rain_8 : decode cX7_rain 8 = .ok (.ifCond .eq 15, 3) := by decide +kernel
theorem dX7_rain_11 : decode cX7_rain 11 = .ok (.iload_n 2, 1) := by decide +kernel
theorem dX7_rain_12 : decode cX7_rain 12 = .ok (.i2l, 1) := by decide +kernel
theorem dX7_rain_13 : decode cX7_rain 13 = .ok (.lconst 0, 1) := by decide +kernel
theorem dX7_rain_14 : decode cX7_rain 14 = .ok (.ldc2_w 97, 3) := by decide +kernel
theorem dX7_rain_17 : decode cX7_rain 17 = .ok (.invokestatic 47, 3) := by decide +kernel
theorem dX7_rain_20 : decode cX7_rain 20 = .ok (.ifCond .ne 6, 3) := by decide +kernel
theorem dX7_rain_23 : decode cX7_rain 23 = .ok (.bipush (-2), 2) := by decide +kernel
theorem dX7_rain_25 : decode cX7_rain 25 = .ok (.ireturn, 1) := by decide +kernel
theorem dX7_rain_26 : decode cX7_rain 26 = .ok (.aload_n 0, 1) := by decide +kernel
theorem dX7_rain_27 : decode cX7_rain 27 = .ok (.getfield 12, 3) := by decide +kernel
theorem dX7_rain_30 : decode cX7_rain 30 = .ok (.getfield 78, 3) := by decide +kernel
theorem dX7_rain_33 : decode cX7_rain 33 = .ok (.iload_n 1, 1) := by decide +kernel
theorem dX7_rain_34 : decode cX7_rain 34 = .ok (.aaload, 1) := by decide +kernel
theorem dX7_rain_35 : decode cX7_rain 35 = .ok (.getfield 99, 3) := by decide +kernel
theorem dX7_rain_38 : decode cX7_rain 38 = .ok (.istore_n 3, 1) := by decide +kernel
theorem dX7_rain_39 : decode cX7_rain 39 = .ok (.aload_n 0, 1) := by decide +kernel
theorem dX7_rain_40 : decode cX7_rain 40 = .ok (.getfield 12, 3) := by decide +kernel
theorem dX7_rain_43 : decode cX7_rain 43 = .ok (.getfield 78, 3) := by decide +kernel
theorem dX7_rain_46 : decode cX7_rain 46 = .ok (.iload_n 1, 1) := by decide +kernel
theorem dX7_rain_47 : decode cX7_rain 47 = .ok (.aaload, 1) := by decide +kernel
theorem dX7_rain_48 : decode cX7_rain 48 = .ok (.iload_n 2, 1) := by decide +kernel
theorem dX7_rain_49 : decode cX7_rain 49 = .ok (.putfield 99, 3) := by decide +kernel
theorem dX7_rain_52 : decode cX7_rain 52 = .ok (.iload_n 3, 1) := by decide +kernel
theorem dX7_rain_53 : decode cX7_rain 53 = .ok (.ireturn, 1) := by decide +kernel
theorem dX7_gateway_0 : decode cX7_gateway 0 = .ok (.iload_n 1, 1) := by decide +kernel
theorem dX7_gateway_1 : decode cX7_gateway 1 = .ok (.invokestatic 71, 3) := by decide +kernel
theorem dX7_gateway_4 : decode cX7_gateway 4 = .ok (.ifCond .eq 15, 3) := by decide +kernel
theorem dX7_gateway_7 : decode cX7_gateway 7 = .ok (.iload_n 2, 1) := by decide +kernel
theorem dX7_gateway_8 : decode cX7_gateway 8 = .ok (.i2l, 1) := by decide +kernel
theorem dX7_gateway_9 : decode cX7_gateway 9 = .ok (.lconst 0, 1) := by decide +kernel
theorem dX7_gateway_10 : decode cX7_gateway 10 = .ok (.ldc2_w 102, 3) := by decide +kernel
theorem dX7_gateway_13 : decode cX7_gateway 13 = .ok (.invokestatic 47, 3) := by decide +kernel
theorem dX7_gateway_16 : decode cX7_gateway 16 = .ok (.ifCond .ne 6, 3) := by decide +kernel
theorem dX7_gateway_19 : decode cX7_gateway 19 = .ok (.bipush (-2), 2) := by decide +kernel
theorem dX7_gateway_21 : decode cX7_gateway 21 = .ok (.ireturn, 1) := by decide +kernel
theorem dX7_gateway_22 : decode cX7_gateway 22 = .ok (.aload_n 0, 1) := by decide +kernel
theorem dX7_gateway_23 : decode cX7_gateway 23 = .ok (.getfield 12, 3) := by decide +kernel
theorem dX7_gateway_26 : decode cX7_gateway 26 = .ok (.getfield 104, 3) := by decide +kernel
theorem dX7_gateway_29 : decode cX7_gateway 29 = .ok (.iload_n 1, 1) := by decide +kernel
theorem dX7_gateway_30 : decode cX7_gateway 30 = .ok (.iload_n 2, 1) := by decide +kernel
theorem dX7_gateway_31 : decode cX7_gateway 31 = .ok (.iastore, 1) := by decide +kernel
theorem dX7_gateway_32 : decode cX7_gateway 32 = .ok (.aload_n 0, 1) := by decide +kernel
theorem dX7_gateway_33 : decode cX7_gateway 33 = .ok (.getfield 12, 3) := by decide +kernel
theorem dX7_gateway_36 : decode cX7_gateway 36 = .ok (.getfield 107, 3) := by decide +kernel
theorem dX7_gateway_39 : decode cX7_gateway 39 = .ok (.iload_n 1, 1) := by decide +kernel
theorem dX7_gateway_40 : decode cX7_gateway 40 = .ok (.iload_n 3, 1) := by decide +kernel
theorem dX7_gateway_41 : decode cX7_gateway 41 = .ok (.bastore, 1) := by decide +kernel
theorem dX7_gateway_42 : decode cX7_gateway 42 = .ok (.iconst 0, 1) := by decide +kernel
theorem dX7_gateway_43 : decode cX7_gateway 43 = .ok (.ireturn, 1) := by decide +kernel
theorem dX7_swap_0 : decode cX7_swap 0 = .ok (.aload_n 0, 1) := by decide +kernel
theorem dX7_swap_1 : decode cX7_swap 1 = .ok (.getfield 12, 3) := by decide +kernel
theorem dX7_swap_4 : decode cX7_swap 4 = .ok (.iload_n 1, 1) := by decide +kernel
theorem dX7_swap_5 : decode cX7_swap 5 = .ok (.invokevirtual 87, 3) := by decide +kernel
theorem dX7_swap_8 : decode cX7_swap 8 = .ok (.ifCond .eq 26, 3) := by decide +kernel
theorem dX7_swap_11 : decode cX7_swap 11 = .ok (.iload_n 2, 1) := by decide +kernel
theorem dX7_swap_12 : decode cX7_swap 12 = .ok (.invokestatic 71, 3) := by decide +kernel
theorem dX7_swap_15 : decode cX7_swap 15 = .ok (.ifCond .eq 19, 3) := by decide +kernel
theorem dX7_swap_18 : decode cX7_swap 18 = .ok (.aload_n 0, 1) := by decide +kernel
theorem dX7_swap_19 : decode cX7_swap 19 = .ok (.getfield 12, 3) := by decide +kernel
theorem dX7_swap_22 : decode cX7_swap 22 = .ok (.getfield 78, 3) := by decide +kernel
theorem dX7_swap_25 : decode cX7_swap 25 = .ok (.iload_n 1, 1) := by decide +kernel
theorem dX7_swap_26 : decode cX7_swap 26 = .ok (.aaload, 1) := by decide +kernel
theorem dX7_swap_27 : decode cX7_swap 27 = .ok (.getfield 111, 3) := by decide +kernel
theorem dX7_swap_30 : decode cX7_swap 30 = .ok (.iload_n 2, 1) := by decide +kernel
theorem dX7_swap_31 : decode cX7_swap 31 = .ok (.if_icmp .ne 6, 3) := by decide +kernel
theorem dX7_swap_34 : decode cX7_swap 34 = .ok (.bipush (-2), 2) := by decide +kernel
theorem dX7_swap_36 : decode cX7_swap 36 = .ok (.ireturn, 1) := by decide +kernel
theorem dX7_swap_37 : decode cX7_swap 37 = .ok (.aload_n 0, 1) := by decide +kernel
theorem dX7_swap_38 : decode cX7_swap 38 = .ok (.getfield 12, 3) := by decide +kernel
theorem dX7_swap_41 : decode cX7_swap 41 = .ok (.getfield 78, 3) := by decide +kernel
theorem dX7_swap_44 : decode cX7_swap 44 = .ok (.iload_n 1, 1) := by decide +kernel
theorem dX7_swap_45 : decode cX7_swap 45 = .ok (.aaload, 1) := by decide +kernel
theorem dX7_swap_46 : decode cX7_swap 46 = .ok (.getfield 114, 3) := by decide +kernel
theorem dX7_swap_49 : decode cX7_swap 49 = .ok (.ifCond .le 6, 3) := by decide +kernel
theorem dX7_swap_52 : decode cX7_swap 52 = .ok (.bipush (-7), 2) := by decide +kernel
theorem dX7_swap_54 : decode cX7_swap 54 = .ok (.ireturn, 1) := by decide +kernel
theorem dX7_swap_55 : decode cX7_swap 55 = .ok (.aload_n 0, 1) := by decide +kernel
theorem dX7_swap_56 : decode cX7_swap 56 = .ok (.getfield 12, 3) := by decide +kernel
theorem dX7_swap_59 : decode cX7_swap 59 = .ok (.getfield 78, 3) := by decide +kernel
theorem dX7_swap_62 : decode cX7_swap 62 = .ok (.iload_n 1, 1) := by decide +kernel
theorem dX7_swap_63 : decode cX7_swap 63 = .ok (.aaload, 1) := by decide +kernel
theorem dX7_swap_64 : decode cX7_swap 64 = .ok (.iload_n 2, 1) := by decide +kernel
theorem dX7_swap_65 : decode cX7_swap 65 = .ok (.putfield 111, 3) := by decide +kernel
theorem dX7_swap_68 : decode cX7_swap 68 = .ok (.aload_n 0, 1) := by decide +kernel
theorem dX7_swap_69 : decode cX7_swap 69 = .ok (.getfield 12, 3) := by decide +kernel
theorem dX7_swap_72 : decode cX7_swap 72 = .ok (.getfield 78, 3) := by decide +kernel
theorem dX7_swap_75 : decode cX7_swap 75 = .ok (.iload_n 1, 1) := by decide +kernel
theorem dX7_swap_76 : decode cX7_swap 76 = .ok (.aaload, 1) := by decide +kernel
theorem dX7_swap_77 : decode cX7_swap 77 = .ok (.aload_n 0, 1) := by decide +kernel
theorem dX7_swap_78 : decode cX7_swap 78 = .ok (.getfield 12, 3) := by decide +kernel
theorem dX7_swap_81 : decode cX7_swap 81 = .ok (.getfield 66, 3) := by decide +kernel
theorem dX7_swap_84 : decode cX7_swap 84 = .ok (.putfield 114, 3) := by decide +kernel
theorem dX7_swap_87 : decode cX7_swap 87 = .ok (.iconst 0, 1) := by decide +kernel
theorem dX7_swap_88 : decode cX7_swap 88 = .ok (.ireturn, 1) := by decide +kernel
theorem dX7_needs_0 : decode cX7_needs 0 = .ok (.aload_n 0, 1) := by decide +kernel
theorem dX7_needs_1 : decode cX7_needs 1 = .ok (.getfield 26, 3) := by decide +kernel
theorem dX7_needs_4 : decode cX7_needs 4 = .ok (.iload_n 1, 1) := by decide +kernel
theorem dX7_needs_5 : decode cX7_needs 5 = .ok (.aload_n 0, 1) := by decide +kernel
theorem dX7_needs_6 : decode cX7_needs 6 = .ok (.getfield 12, 3) := by decide +kernel
theorem dX7_needs_9 : decode cX7_needs 9 = .ok (.getfield 75, 3) := by decide +kernel
theorem dX7_needs_12 : decode cX7_needs 12 = .ok (.bipush 9, 2) := by decide +kernel
theorem dX7_needs_14 : decode cX7_needs 14 = .ok (.invokevirtual 117, 3) := by decide +kernel
theorem dX7_needs_17 : decode cX7_needs 17 = .ok (.istore_n 2, 1) := by decide +kernel
theorem dX7_needs_18 : decode cX7_needs 18 = .ok (.iload_n 2, 1) := by decide +kernel
theorem dX7_needs_19 : decode cX7_needs 19 = .ok (.ifCond .eq 5, 3) := by decide +kernel
theorem dX7_needs_22 : decode cX7_needs 22 = .ok (.iload_n 2, 1) := by decide +kernel
theorem dX7_needs_23 : decode cX7_needs 23 = .ok (.ireturn, 1) := by decide +kernel
theorem dX7_needs_24 : decode cX7_needs 24 = .ok (.iconst 0, 1) := by decide +kernel
theorem dX7_needs_25 : decode cX7_needs 25 = .ok (.istore_n 3, 1) := by decide +kernel
theorem dX7_needs_26 : decode cX7_needs 26 = .ok (.iconst 0, 1) := by decide +kernel
theorem dX7_needs_27 : decode cX7_needs 27 = .ok (.istore 4, 2) := by decide +kernel
theorem dX7_needs_29 : decode cX7_needs 29 = .ok (.iload 4, 2) := by decide +kernel
theorem dX7_needs_31 : decode cX7_needs 31 = .ok (.aload_n 0, 1) := by decide +kernel
theorem dX7_needs_32 : decode cX7_needs 32 = .ok (.getfield 12, 3) := by decide +kernel
theorem dX7_needs_35 : decode cX7_needs 35 = .ok (.getfield 75, 3) := by decide +kernel
theorem dX7_needs_38 : decode cX7_needs 38 = .ok (.if_icmp .ge 42, 3) := by decide +kernel
theorem dX7_needs_41 : decode cX7_needs 41 = .ok (.aload_n 0, 1) := by decide +kernel
theorem dX7_needs_42 : decode cX7_needs 42 = .ok (.getfield 26, 3) := by decide +kernel
theorem dX7_needs_45 : decode cX7_needs 45 = .ok (.iload_n 1, 1) := by decide +kernel
theorem dX7_needs_46 : decode cX7_needs 46 = .ok (.iload 4, 2) := by decide +kernel
theorem dX7_needs_48 : decode cX7_needs 48 = .ok (.invokevirtual 121, 3) := by decide +kernel
theorem dX7_needs_51 : decode cX7_needs 51 = .ok (.l2i, 1) := by decide +kernel
theorem dX7_needs_52 : decode cX7_needs 52 = .ok (.istore 5, 2) := by decide +kernel
theorem dX7_needs_54 : decode cX7_needs 54 = .ok (.aload_n 0, 1) := by decide +kernel
theorem dX7_needs_55 : decode cX7_needs 55 = .ok (.getfield 12, 3) := by decide +kernel
theorem dX7_needs_58 : decode cX7_needs 58 = .ok (.getfield 78, 3) := by decide +kernel
theorem dX7_needs_61 : decode cX7_needs 61 = .ok (.iload 4, 2) := by decide +kernel
theorem dX7_needs_63 : decode cX7_needs 63 = .ok (.aaload, 1) := by decide +kernel
theorem dX7_needs_64 : decode cX7_needs 64 = .ok (.iload 5, 2) := by decide +kernel
theorem dX7_needs_66 : decode cX7_needs 66 = .ok (.putfield 125, 3) := by decide +kernel
theorem dX7_needs_69 : decode cX7_needs 69 = .ok (.iload_n 3, 1) := by decide +kernel
theorem dX7_needs_70 : decode cX7_needs 70 = .ok (.iload 5, 2) := by decide +kernel
theorem dX7_needs_72 : decode cX7_needs 72 = .ok (.iadd, 1) := by decide +kernel
theorem dX7_needs_73 : decode cX7_needs 73 = .ok (.istore_n 3, 1) := by decide +kernel
theorem dX7_needs_74 : decode cX7_needs 74 = .ok (.iinc 4 1, 3) := by decide +kernel
theorem dX7_needs_77 : decode cX7_needs 77 = .ok (.goto (-48), 3) := by decide +kernel
theorem dX7_needs_80 : decode cX7_needs 80 = .ok (.iload_n 3, 1) := by decide +kernel
theorem dX7_needs_81 : decode cX7_needs 81 = .ok (.ireturn, 1) := by decide +kernel
theorem dX7_asks_0 : decode cX7_asks 0 = .ok (.aload_n 0, 1) := by decide +kernel
theorem dX7_asks_1 : decode cX7_asks 1 = .ok (.getfield 26, 3) := by decide +kernel
theorem dX7_asks_4 : decode cX7_asks 4 = .ok (.iload_n 1, 1) := by decide +kernel
theorem dX7_asks_5 : decode cX7_asks 5 = .ok (.aload_n 0, 1) := by decide +kernel
theorem dX7_asks_6 : decode cX7_asks 6 = .ok (.getfield 12, 3) := by decide +kernel
theorem dX7_asks_9 : decode cX7_asks 9 = .ok (.getfield 75, 3) := by decide +kernel
theorem dX7_asks_12 : decode cX7_asks 12 = .ok (.sipush 1000, 3) := by decide +kernel
theorem dX7_asks_15 : decode cX7_asks 15 = .ok (.invokevirtual 117, 3) := by decide +kernel
theorem dX7_asks_18 : decode cX7_asks 18 = .ok (.istore_n 2, 1) := by decide +kernel
theorem dX7_asks_19 : decode cX7_asks 19 = .ok (.iload_n 2, 1) := by decide +kernel
theorem dX7_asks_20 : decode cX7_asks 20 = .ok (.ifCond .eq 5, 3) := by decide +kernel
theorem dX7_asks_23 : decode cX7_asks 23 = .ok (.iload_n 2, 1) := by decide +kernel
theorem dX7_asks_24 : decode cX7_asks 24 = .ok (.ireturn, 1) := by decide +kernel
theorem dX7_asks_25 : decode cX7_asks 25 = .ok (.iconst 0, 1) := by decide +kernel
theorem dX7_asks_26 : decode cX7_asks 26 = .ok (.istore_n 3, 1) := by decide +kernel
theorem dX7_asks_27 : decode cX7_asks 27 = .ok (.iconst 0, 1) := by decide +kernel
theorem dX7_asks_28 : decode cX7_asks 28 = .ok (.istore 4, 2) := by decide +kernel
theorem dX7_asks_30 : decode cX7_asks 30 = .ok (.iload 4, 2) := by decide +kernel
theorem dX7_asks_32 : decode cX7_asks 32 = .ok (.aload_n 0, 1) := by decide +kernel
theorem dX7_asks_33 : decode cX7_asks 33 = .ok (.getfield 12, 3) := by decide +kernel
theorem dX7_asks_36 : decode cX7_asks 36 = .ok (.getfield 75, 3) := by decide +kernel
theorem dX7_asks_39 : decode cX7_asks 39 = .ok (.if_icmp .ge 42, 3) := by decide +kernel
theorem dX7_asks_42 : decode cX7_asks 42 = .ok (.aload_n 0, 1) := by decide +kernel
theorem dX7_asks_43 : decode cX7_asks 43 = .ok (.getfield 26, 3) := by decide +kernel
theorem dX7_asks_46 : decode cX7_asks 46 = .ok (.iload_n 1, 1) := by decide +kernel
theorem dX7_asks_47 : decode cX7_asks 47 = .ok (.iload 4, 2) := by decide +kernel
theorem dX7_asks_49 : decode cX7_asks 49 = .ok (.invokevirtual 121, 3) := by decide +kernel
theorem dX7_asks_52 : decode cX7_asks 52 = .ok (.l2i, 1) := by decide +kernel
theorem dX7_asks_53 : decode cX7_asks 53 = .ok (.istore 5, 2) := by decide +kernel
theorem dX7_asks_55 : decode cX7_asks 55 = .ok (.aload_n 0, 1) := by decide +kernel
theorem dX7_asks_56 : decode cX7_asks 56 = .ok (.getfield 12, 3) := by decide +kernel
theorem dX7_asks_59 : decode cX7_asks 59 = .ok (.getfield 78, 3) := by decide +kernel
theorem dX7_asks_62 : decode cX7_asks 62 = .ok (.iload 4, 2) := by decide +kernel
theorem dX7_asks_64 : decode cX7_asks 64 = .ok (.aaload, 1) := by decide +kernel
theorem dX7_asks_65 : decode cX7_asks 65 = .ok (.iload 5, 2) := by decide +kernel
theorem dX7_asks_67 : decode cX7_asks 67 = .ok (.putfield 128, 3) := by decide +kernel
theorem dX7_asks_70 : decode cX7_asks 70 = .ok (.iload_n 3, 1) := by decide +kernel
theorem dX7_asks_71 : decode cX7_asks 71 = .ok (.iload 5, 2) := by decide +kernel
theorem dX7_asks_73 : decode cX7_asks 73 = .ok (.iadd, 1) := by decide +kernel
theorem dX7_asks_74 : decode cX7_asks 74 = .ok (.istore_n 3, 1) := by decide +kernel
theorem dX7_asks_75 : decode cX7_asks 75 = .ok (.iinc 4 1, 3) := by decide +kernel
theorem dX7_asks_78 : decode cX7_asks 78 = .ok (.goto (-48), 3) := by decide +kernel
theorem dX7_asks_81 : decode cX7_asks 81 = .ok (.iload_n 3, 1) := by decide +kernel
theorem dX7_asks_82 : decode cX7_asks 82 = .ok (.ireturn, 1) := by decide +kernel
theorem dX7_legal_0 : decode cX7_legal 0 = .ok (.iload_n 1, 1) := by decide +kernel
theorem dX7_legal_1 : decode cX7_legal 1 = .ok (.i2l, 1) := by decide +kernel
theorem dX7_legal_2 : decode cX7_legal 2 = .ok (.lconst 0, 1) := by decide +kernel
theorem dX7_legal_3 : decode cX7_legal 3 = .ok (.aload_n 0, 1) := by decide +kernel
theorem dX7_legal_4 : decode cX7_legal 4 = .ok (.getfield 12, 3) := by decide +kernel
theorem dX7_legal_7 : decode cX7_legal 7 = .ok (.invokevirtual 131, 3) := by decide +kernel
theorem dX7_legal_10 : decode cX7_legal 10 = .ok (.i2l, 1) := by decide +kernel
theorem dX7_legal_11 : decode cX7_legal 11 = .ok (.invokestatic 47, 3) := by decide +kernel
theorem dX7_legal_14 : decode cX7_legal 14 = .ok (.ifCond .ne 6, 3) := by decide +kernel
theorem dX7_legal_17 : decode cX7_legal 17 = .ok (.bipush (-2), 2) := by decide +kernel
theorem dX7_legal_19 : decode cX7_legal 19 = .ok (.ireturn, 1) := by decide +kernel
theorem dX7_legal_20 : decode cX7_legal 20 = .ok (.aload_n 0, 1) := by decide +kernel
theorem dX7_legal_21 : decode cX7_legal 21 = .ok (.getfield 12, 3) := by decide +kernel
theorem dX7_legal_24 : decode cX7_legal 24 = .ok (.iload_n 1, 1) := by decide +kernel
theorem dX7_legal_25 : decode cX7_legal 25 = .ok (.invokevirtual 135, 3) := by decide +kernel
theorem dX7_legal_28 : decode cX7_legal 28 = .ok (.ifCond .eq 7, 3) := by decide +kernel
theorem dX7_legal_31 : decode cX7_legal 31 = .ok (.iconst 1, 1) := by decide +kernel
theorem dX7_legal_32 : decode cX7_legal 32 = .ok (.goto 4, 3) := by decide +kernel
theorem dX7_legal_35 : decode cX7_legal 35 = .ok (.iconst 0, 1) := by decide +kernel
theorem dX7_legal_36 : decode cX7_legal 36 = .ok (.ireturn, 1) := by decide +kernel
theorem dX7_sets_0 : decode cX7_sets 0 = .ok (.aload_n 0, 1) := by decide +kernel
theorem dX7_sets_1 : decode cX7_sets 1 = .ok (.getfield 19, 3) := by decide +kernel
theorem dX7_sets_4 : decode cX7_sets 4 = .ok (.aload_n 0, 1) := by decide +kernel
theorem dX7_sets_5 : decode cX7_sets 5 = .ok (.getfield 12, 3) := by decide +kernel
theorem dX7_sets_8 : decode cX7_sets 8 = .ok (.invokevirtual 138, 3) := by decide +kernel
theorem dX7_sets_11 : decode cX7_sets 11 = .ok (.aload_n 0, 1) := by decide +kernel
theorem dX7_sets_12 : decode cX7_sets 12 = .ok (.getfield 19, 3) := by decide +kernel
theorem dX7_sets_15 : decode cX7_sets 15 = .ok (.getfield 142, 3) := by decide +kernel
theorem dX7_sets_18 : decode cX7_sets 18 = .ok (.ireturn, 1) := by decide +kernel
theorem dX7_fewest_0 : decode cX7_fewest 0 = .ok (.aload_n 0, 1) := by decide +kernel
theorem dX7_fewest_1 : decode cX7_fewest 1 = .ok (.iconst 0, 1) := by decide +kernel
theorem dX7_fewest_2 : decode cX7_fewest 2 = .ok (.putfield 143, 3) := by decide +kernel
theorem dX7_fewest_5 : decode cX7_fewest 5 = .ok (.aload_n 0, 1) := by decide +kernel
theorem dX7_fewest_6 : decode cX7_fewest 6 = .ok (.getfield 12, 3) := by decide +kernel
theorem dX7_fewest_9 : decode cX7_fewest 9 = .ok (.invokevirtual 146, 3) := by decide +kernel
theorem dX7_fewest_12 : decode cX7_fewest 12 = .ok (.lstore_n 1, 1) := by decide +kernel
theorem dX7_fewest_13 : decode cX7_fewest 13 = .ok (.lload_n 1, 1) := by decide +kernel
theorem dX7_fewest_14 : decode cX7_fewest 14 = .ok (.lconst 0, 1) := by decide +kernel
theorem dX7_fewest_15 : decode cX7_fewest 15 = .ok (.lcmp, 1) := by decide +kernel
theorem dX7_fewest_16 : decode cX7_fewest 16 = .ok (.ifCond .ne 13, 3) := by decide +kernel
theorem dX7_fewest_19 : decode cX7_fewest 19 = .ok (.aload_n 0, 1) := by decide +kernel
theorem dX7_fewest_20 : decode cX7_fewest 20 = .ok (.getfield 33, 3) := by decide +kernel
theorem dX7_fewest_23 : decode cX7_fewest 23 = .ok (.iconst 0, 1) := by decide +kernel
theorem dX7_fewest_24 : decode cX7_fewest 24 = .ok (.putfield 150, 3) := by decide +kernel
theorem dX7_fewest_27 : decode cX7_fewest 27 = .ok (.iconst 0, 1) := by decide +kernel
theorem dX7_fewest_28 : decode cX7_fewest 28 = .ok (.ireturn, 1) := by decide +kernel
theorem dX7_fewest_29 : decode cX7_fewest 29 = .ok (.aload_n 0, 1) := by decide +kernel
theorem dX7_fewest_30 : decode cX7_fewest 30 = .ok (.getfield 12, 3) := by decide +kernel
theorem dX7_fewest_33 : decode cX7_fewest 33 = .ok (.invokevirtual 151, 3) := by decide +kernel
theorem dX7_fewest_36 : decode cX7_fewest 36 = .ok (.ifCond .ne 5, 3) := by decide +kernel
theorem dX7_fewest_39 : decode cX7_fewest 39 = .ok (.iconst (-1), 1) := by decide +kernel
theorem dX7_fewest_40 : decode cX7_fewest 40 = .ok (.ireturn, 1) := by decide +kernel
theorem dX7_fewest_41 : decode cX7_fewest 41 = .ok (.aload_n 0, 1) := by decide +kernel
theorem dX7_fewest_42 : decode cX7_fewest 42 = .ok (.getfield 19, 3) := by decide +kernel
