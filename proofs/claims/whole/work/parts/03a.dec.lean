theorem dX0_init_0 : decode cX0_init 0 = .ok (.aload_n 0, 1) := by decide +kernel
theorem dX0_init_1 : decode cX0_init 1 = .ok (.invokespecial 3, 3) := by decide +kernel
theorem dX0_init_4 : decode cX0_init 4 = .ok (.aload_n 0, 1) := by decide +kernel
theorem dX0_init_5 : decode cX0_init 5 = .ok (.bipush 21, 2) := by decide +kernel
theorem dX0_init_7 : decode cX0_init 7 = .ok (.newarray .int, 2) := by decide +kernel
theorem dX0_init_9 : decode cX0_init 9 = .ok (.putfield 9, 3) := by decide +kernel
theorem dX0_init_12 : decode cX0_init 12 = .ok (.aload_n 0, 1) := by decide +kernel
theorem dX0_init_13 : decode cX0_init 13 = .ok (.iload_n 1, 1) := by decide +kernel
theorem dX0_init_14 : decode cX0_init 14 = .ok (.putfield 15, 3) := by decide +kernel
theorem dX0_init_17 : decode cX0_init 17 = .ok (.aload_n 0, 1) := by decide +kernel
theorem dX0_init_18 : decode cX0_init 18 = .ok (.iload_n 2, 1) := by decide +kernel
theorem dX0_init_19 : decode cX0_init 19 = .ok (.putfield 19, 3) := by decide +kernel
theorem dX0_init_22 : decode cX0_init 22 = .ok (.aload_n 0, 1) := by decide +kernel
theorem dX0_init_23 : decode cX0_init 23 = .ok (.iload_n 3, 1) := by decide +kernel
theorem dX0_init_24 : decode cX0_init 24 = .ok (.putfield 22, 3) := by decide +kernel
theorem dX0_init_27 : decode cX0_init 27 = .ok (.aload_n 0, 1) := by decide +kernel
theorem dX0_init_28 : decode cX0_init 28 = .ok (.iload 4, 2) := by decide +kernel
theorem dX0_init_30 : decode cX0_init 30 = .ok (.putfield 25, 3) := by decide +kernel
theorem dX0_init_33 : decode cX0_init 33 = .ok (.return_, 1) := by decide +kernel
theorem dX0_powerNow_0 : decode cX0_powerNow 0 = .ok (.aload_n 0, 1) := by decide +kernel
theorem dX0_powerNow_1 : decode cX0_powerNow 1 = .ok (.getfield 15, 3) := by decide +kernel
theorem dX0_powerNow_4 : decode cX0_powerNow 4 = .ok (.iconst 2, 1) := by decide +kernel
theorem dX0_powerNow_5 : decode cX0_powerNow 5 = .ok (.aload_n 0, 1) := by decide +kernel
theorem dX0_powerNow_6 : decode cX0_powerNow 6 = .ok (.getfield 28, 3) := by decide +kernel
theorem dX0_powerNow_9 : decode cX0_powerNow 9 = .ok (.iadd, 1) := by decide +kernel
theorem dX0_powerNow_10 : decode cX0_powerNow 10 = .ok (.imul, 1) := by decide +kernel
theorem dX0_powerNow_11 : decode cX0_powerNow 11 = .ok (.iconst 2, 1) := by decide +kernel
theorem dX0_powerNow_12 : decode cX0_powerNow 12 = .ok (.idiv, 1) := by decide +kernel
theorem dX0_powerNow_13 : decode cX0_powerNow 13 = .ok (.ireturn, 1) := by decide +kernel
theorem dX0_rateNow_0 : decode cX0_rateNow 0 = .ok (.aload_n 0, 1) := by decide +kernel
theorem dX0_rateNow_1 : decode cX0_rateNow 1 = .ok (.getfield 28, 3) := by decide +kernel
theorem dX0_rateNow_4 : decode cX0_rateNow 4 = .ok (.ifCond .ne 8, 3) := by decide +kernel
theorem dX0_rateNow_7 : decode cX0_rateNow 7 = .ok (.aload_n 0, 1) := by decide +kernel
theorem dX0_rateNow_8 : decode cX0_rateNow 8 = .ok (.getfield 19, 3) := by decide +kernel
theorem dX0_rateNow_11 : decode cX0_rateNow 11 = .ok (.ireturn, 1) := by decide +kernel
theorem dX0_rateNow_12 : decode cX0_rateNow 12 = .ok (.aload_n 0, 1) := by decide +kernel
theorem dX0_rateNow_13 : decode cX0_rateNow 13 = .ok (.getfield 28, 3) := by decide +kernel
theorem dX0_rateNow_16 : decode cX0_rateNow 16 = .ok (.iconst 1, 1) := by decide +kernel
theorem dX0_rateNow_17 : decode cX0_rateNow 17 = .ok (.if_icmp .ne 12, 3) := by decide +kernel
theorem dX0_rateNow_20 : decode cX0_rateNow 20 = .ok (.aload_n 0, 1) := by decide +kernel
theorem dX0_rateNow_21 : decode cX0_rateNow 21 = .ok (.getfield 19, 3) := by decide +kernel
theorem dX0_rateNow_24 : decode cX0_rateNow 24 = .ok (.iconst 2, 1) := by decide +kernel
theorem dX0_rateNow_25 : decode cX0_rateNow 25 = .ok (.idiv, 1) := by decide +kernel
theorem dX0_rateNow_26 : decode cX0_rateNow 26 = .ok (.goto 4, 3) := by decide +kernel
theorem dX0_rateNow_29 : decode cX0_rateNow 29 = .ok (.iconst 0, 1) := by decide +kernel
theorem dX0_rateNow_30 : decode cX0_rateNow 30 = .ok (.ireturn, 1) := by decide +kernel
theorem dX0_held_0 : decode cX0_held 0 = .ok (.aload_n 0, 1) := by decide +kernel
theorem dX0_held_1 : decode cX0_held 1 = .ok (.getfield 31, 3) := by decide +kernel
theorem dX0_held_4 : decode cX0_held 4 = .ok (.aload_n 0, 1) := by decide +kernel
theorem dX0_held_5 : decode cX0_held 5 = .ok (.getfield 35, 3) := by decide +kernel
theorem dX0_held_8 : decode cX0_held 8 = .ok (.lsub, 1) := by decide +kernel
theorem dX0_held_9 : decode cX0_held 9 = .ok (.aload_n 0, 1) := by decide +kernel
theorem dX0_held_10 : decode cX0_held 10 = .ok (.getfield 38, 3) := by decide +kernel
theorem dX0_held_13 : decode cX0_held 13 = .ok (.lsub, 1) := by decide +kernel
theorem dX0_held_14 : decode cX0_held 14 = .ok (.l2i, 1) := by decide +kernel
theorem dX0_held_15 : decode cX0_held 15 = .ok (.ireturn, 1) := by decide +kernel
theorem dX0_oldest_0 : decode cX0_oldest 0 = .ok (.bipush 20, 2) := by decide +kernel
theorem dX0_oldest_2 : decode cX0_oldest 2 = .ok (.istore_n 1, 1) := by decide +kernel
theorem dX0_oldest_3 : decode cX0_oldest 3 = .ok (.iload_n 1, 1) := by decide +kernel
theorem dX0_oldest_4 : decode cX0_oldest 4 = .ok (.ifCond .lt 20, 3) := by decide +kernel
theorem dX0_oldest_7 : decode cX0_oldest 7 = .ok (.aload_n 0, 1) := by decide +kernel
theorem dX0_oldest_8 : decode cX0_oldest 8 = .ok (.getfield 9, 3) := by decide +kernel
theorem dX0_oldest_11 : decode cX0_oldest 11 = .ok (.iload_n 1, 1) := by decide +kernel
theorem dX0_oldest_12 : decode cX0_oldest 12 = .ok (.iaload, 1) := by decide +kernel
theorem dX0_oldest_13 : decode cX0_oldest 13 = .ok (.ifCond .le 5, 3) := by decide +kernel
theorem dX0_oldest_16 : decode cX0_oldest 16 = .ok (.iload_n 1, 1) := by decide +kernel
theorem dX0_oldest_17 : decode cX0_oldest 17 = .ok (.ireturn, 1) := by decide +kernel
theorem dX0_oldest_18 : decode cX0_oldest 18 = .ok (.iinc 1 (-1), 3) := by decide +kernel
theorem dX0_oldest_21 : decode cX0_oldest 21 = .ok (.goto (-18), 3) := by decide +kernel
theorem dX0_oldest_24 : decode cX0_oldest 24 = .ok (.iconst (-1), 1) := by decide +kernel
theorem dX0_oldest_25 : decode cX0_oldest 25 = .ok (.ireturn, 1) := by decide +kernel
theorem dX0_weightIfLit_0 : decode cX0_weightIfLit 0 = .ok (.aload_n 0, 1) := by decide +kernel
theorem dX0_weightIfLit_1 : decode cX0_weightIfLit 1 = .ok (.getfield 22, 3) := by decide +kernel
theorem dX0_weightIfLit_4 : decode cX0_weightIfLit 4 = .ok (.aload_n 0, 1) := by decide +kernel
theorem dX0_weightIfLit_5 : decode cX0_weightIfLit 5 = .ok (.invokevirtual 41, 3) := by decide +kernel
theorem dX0_weightIfLit_8 : decode cX0_weightIfLit 8 = .ok (.aload_n 0, 1) := by decide +kernel
theorem dX0_weightIfLit_9 : decode cX0_weightIfLit 9 = .ok (.invokevirtual 45, 3) := by decide +kernel
theorem dX0_weightIfLit_12 : decode cX0_weightIfLit 12 = .ok (.invokestatic 48, 3) := by decide +kernel
theorem dX0_weightIfLit_15 : decode cX0_weightIfLit 15 = .ok (.imul, 1) := by decide +kernel
theorem dX0_weightIfLit_16 : decode cX0_weightIfLit 16 = .ok (.ireturn, 1) := by decide +kernel
theorem dX0_takeAsked_0 : decode cX0_takeAsked 0 = .ok (.aload_n 0, 1) := by decide +kernel
theorem dX0_takeAsked_1 : decode cX0_takeAsked 1 = .ok (.getfield 9, 3) := by decide +kernel
theorem dX0_takeAsked_4 : decode cX0_takeAsked 4 = .ok (.iconst 0, 1) := by decide +kernel
theorem dX0_takeAsked_5 : decode cX0_takeAsked 5 = .ok (.dup2, 1) := by decide +kernel
theorem dX0_takeAsked_6 : decode cX0_takeAsked 6 = .ok (.iaload, 1) := by decide +kernel
theorem dX0_takeAsked_7 : decode cX0_takeAsked 7 = .ok (.aload_n 0, 1) := by decide +kernel
theorem dX0_takeAsked_8 : decode cX0_takeAsked 8 = .ok (.getfield 54, 3) := by decide +kernel
theorem dX0_takeAsked_11 : decode cX0_takeAsked 11 = .ok (.iadd, 1) := by decide +kernel
theorem dX0_takeAsked_12 : decode cX0_takeAsked 12 = .ok (.iastore, 1) := by decide +kernel
theorem dX0_takeAsked_13 : decode cX0_takeAsked 13 = .ok (.aload_n 0, 1) := by decide +kernel
theorem dX0_takeAsked_14 : decode cX0_takeAsked 14 = .ok (.dup, 1) := by decide +kernel
theorem dX0_takeAsked_15 : decode cX0_takeAsked 15 = .ok (.getfield 31, 3) := by decide +kernel
theorem dX0_takeAsked_18 : decode cX0_takeAsked 18 = .ok (.aload_n 0, 1) := by decide +kernel
theorem dX0_takeAsked_19 : decode cX0_takeAsked 19 = .ok (.getfield 54, 3) := by decide +kernel
theorem dX0_takeAsked_22 : decode cX0_takeAsked 22 = .ok (.i2l, 1) := by decide +kernel
theorem dX0_takeAsked_23 : decode cX0_takeAsked 23 = .ok (.ladd, 1) := by decide +kernel
theorem dX0_takeAsked_24 : decode cX0_takeAsked 24 = .ok (.putfield 31, 3) := by decide +kernel
theorem dX0_takeAsked_27 : decode cX0_takeAsked 27 = .ok (.return_, 1) := by decide +kernel
theorem dX0_send_0 : decode cX0_send 0 = .ok (.aload_n 0, 1) := by decide +kernel
theorem dX0_send_1 : decode cX0_send 1 = .ok (.invokevirtual 45, 3) := by decide +kernel
theorem dX0_send_4 : decode cX0_send 4 = .ok (.istore_n 1, 1) := by decide +kernel
theorem dX0_send_5 : decode cX0_send 5 = .ok (.bipush 20, 2) := by decide +kernel
theorem dX0_send_7 : decode cX0_send 7 = .ok (.istore_n 2, 1) := by decide +kernel
theorem dX0_send_8 : decode cX0_send 8 = .ok (.iload_n 2, 1) := by decide +kernel
theorem dX0_send_9 : decode cX0_send 9 = .ok (.ifCond .lt 49, 3) := by decide +kernel
theorem dX0_send_12 : decode cX0_send 12 = .ok (.iload_n 1, 1) := by decide +kernel
theorem dX0_send_13 : decode cX0_send 13 = .ok (.ifCond .le 45, 3) := by decide +kernel
theorem dX0_send_16 : decode cX0_send 16 = .ok (.iload_n 1, 1) := by decide +kernel
theorem dX0_send_17 : decode cX0_send 17 = .ok (.aload_n 0, 1) := by decide +kernel
theorem dX0_send_18 : decode cX0_send 18 = .ok (.getfield 9, 3) := by decide +kernel
theorem dX0_send_21 : decode cX0_send 21 = .ok (.iload_n 2, 1) := by decide +kernel
theorem dX0_send_22 : decode cX0_send 22 = .ok (.iaload, 1) := by decide +kernel
theorem dX0_send_23 : decode cX0_send 23 = .ok (.invokestatic 48, 3) := by decide +kernel
theorem dX0_send_26 : decode cX0_send 26 = .ok (.istore_n 3, 1) := by decide +kernel
theorem dX0_send_27 : decode cX0_send 27 = .ok (.aload_n 0, 1) := by decide +kernel
theorem dX0_send_28 : decode cX0_send 28 = .ok (.getfield 9, 3) := by decide +kernel
theorem dX0_send_31 : decode cX0_send 31 = .ok (.iload_n 2, 1) := by decide +kernel
theorem dX0_send_32 : decode cX0_send 32 = .ok (.dup2, 1) := by decide +kernel
theorem dX0_send_33 : decode cX0_send 33 = .ok (.iaload, 1) := by decide +kernel
theorem dX0_send_34 : decode cX0_send 34 = .ok (.iload_n 3, 1) := by decide +kernel
theorem dX0_send_35 : decode cX0_send 35 = .ok (.isub, 1) := by decide +kernel
theorem dX0_send_36 : decode cX0_send 36 = .ok (.iastore, 1) := by decide +kernel
theorem dX0_send_37 : decode cX0_send 37 = .ok (.iload_n 1, 1) := by decide +kernel
theorem dX0_send_38 : decode cX0_send 38 = .ok (.iload_n 3, 1) := by decide +kernel
theorem dX0_send_39 : decode cX0_send 39 = .ok (.isub, 1) := by decide +kernel
theorem dX0_send_40 : decode cX0_send 40 = .ok (.istore_n 1, 1) := by decide +kernel
theorem dX0_send_41 : decode cX0_send 41 = .ok (.aload_n 0, 1) := by decide +kernel
theorem dX0_send_42 : decode cX0_send 42 = .ok (.dup, 1) := by decide +kernel
theorem dX0_send_43 : decode cX0_send 43 = .ok (.getfield 35, 3) := by decide +kernel
theorem dX0_send_46 : decode cX0_send 46 = .ok (.iload_n 3, 1) := by decide +kernel
theorem dX0_send_47 : decode cX0_send 47 = .ok (.i2l, 1) := by decide +kernel
theorem dX0_send_48 : decode cX0_send 48 = .ok (.ladd, 1) := by decide +kernel
theorem dX0_send_49 : decode cX0_send 49 = .ok (.putfield 35, 3) := by decide +kernel
theorem dX0_send_52 : decode cX0_send 52 = .ok (.iinc 2 (-1), 3) := by decide +kernel
theorem dX0_send_55 : decode cX0_send 55 = .ok (.goto (-47), 3) := by decide +kernel
theorem dX0_send_58 : decode cX0_send 58 = .ok (.return_, 1) := by decide +kernel
theorem dX0_growOlder_0 : decode cX0_growOlder 0 = .ok (.bipush 20, 2) := by decide +kernel
theorem dX0_growOlder_2 : decode cX0_growOlder 2 = .ok (.istore_n 2, 1) := by decide +kernel
theorem dX0_growOlder_3 : decode cX0_growOlder 3 = .ok (.iload_n 2, 1) := by decide +kernel
theorem dX0_growOlder_4 : decode cX0_growOlder 4 = .ok (.ifCond .le 23, 3) := by decide +kernel
theorem dX0_growOlder_7 : decode cX0_growOlder 7 = .ok (.aload_n 0, 1) := by decide +kernel
theorem dX0_growOlder_8 : decode cX0_growOlder 8 = .ok (.getfield 9, 3) := by decide +kernel
theorem dX0_growOlder_11 : decode cX0_growOlder 11 = .ok (.iload_n 2, 1) := by decide +kernel
theorem dX0_growOlder_12 : decode cX0_growOlder 12 = .ok (.aload_n 0, 1) := by decide +kernel
theorem dX0_growOlder_13 : decode cX0_growOlder 13 = .ok (.getfield 9, 3) := by decide +kernel
theorem dX0_growOlder_16 : decode cX0_growOlder 16 = .ok (.iload_n 2, 1) := by decide +kernel
theorem dX0_growOlder_17 : decode cX0_growOlder 17 = .ok (.iconst 1, 1) := by decide +kernel
theorem dX0_growOlder_18 : decode cX0_growOlder 18 = .ok (.isub, 1) := by decide +kernel
theorem dX0_growOlder_19 : decode cX0_growOlder 19 = .ok (.iaload, 1) := by decide +kernel
theorem dX0_growOlder_20 : decode cX0_growOlder 20 = .ok (.iastore, 1) := by decide +kernel
theorem dX0_growOlder_21 : decode cX0_growOlder 21 = .ok (.iinc 2 (-1), 3) := by decide +kernel
theorem dX0_growOlder_24 : decode cX0_growOlder 24 = .ok (.goto (-21), 3) := by decide +kernel
theorem dX0_growOlder_27 : decode cX0_growOlder 27 = .ok (.aload_n 0, 1) := by decide +kernel
theorem dX0_growOlder_28 : decode cX0_growOlder 28 = .ok (.getfield 9, 3) := by decide +kernel
theorem dX0_growOlder_31 : decode cX0_growOlder 31 = .ok (.iconst 0, 1) := by decide +kernel
theorem dX0_growOlder_32 : decode cX0_growOlder 32 = .ok (.iconst 0, 1) := by decide +kernel
theorem dX0_growOlder_33 : decode cX0_growOlder 33 = .ok (.iastore, 1) := by decide +kernel
theorem dX0_growOlder_34 : decode cX0_growOlder 34 = .ok (.bipush 20, 2) := by decide +kernel
theorem dX0_growOlder_36 : decode cX0_growOlder 36 = .ok (.istore_n 2, 1) := by decide +kernel
theorem dX0_growOlder_37 : decode cX0_growOlder 37 = .ok (.iload_n 2, 1) := by decide +kernel
theorem dX0_growOlder_38 : decode cX0_growOlder 38 = .ok (.iload_n 1, 1) := by decide +kernel
theorem dX0_growOlder_39 : decode cX0_growOlder 39 = .ok (.if_icmp .lt 36, 3) := by decide +kernel
theorem dX0_growOlder_42 : decode cX0_growOlder 42 = .ok (.iload_n 2, 1) := by decide +kernel
theorem dX0_growOlder_43 : decode cX0_growOlder 43 = .ok (.ifCond .lt 32, 3) := by decide +kernel
theorem dX0_growOlder_46 : decode cX0_growOlder 46 = .ok (.aload_n 0, 1) := by decide +kernel
theorem dX0_growOlder_47 : decode cX0_growOlder 47 = .ok (.dup, 1) := by decide +kernel
theorem dX0_growOlder_48 : decode cX0_growOlder 48 = .ok (.getfield 38, 3) := by decide +kernel
theorem dX0_growOlder_51 : decode cX0_growOlder 51 = .ok (.aload_n 0, 1) := by decide +kernel
theorem dX0_growOlder_52 : decode cX0_growOlder 52 = .ok (.getfield 9, 3) := by decide +kernel
theorem dX0_growOlder_55 : decode cX0_growOlder 55 = .ok (.iload_n 2, 1) := by decide +kernel
theorem dX0_growOlder_56 : decode cX0_growOlder 56 = .ok (.iaload, 1) := by decide +kernel
theorem dX0_growOlder_57 : decode cX0_growOlder 57 = .ok (.i2l, 1) := by decide +kernel
theorem dX0_growOlder_58 : decode cX0_growOlder 58 = .ok (.ladd, 1) := by decide +kernel
theorem dX0_growOlder_59 : decode cX0_growOlder 59 = .ok (.putfield 38, 3) := by decide +kernel
theorem dX0_growOlder_62 : decode cX0_growOlder 62 = .ok (.aload_n 0, 1) := by decide +kernel
theorem dX0_growOlder_63 : decode cX0_growOlder 63 = .ok (.getfield 9, 3) := by decide +kernel
theorem dX0_growOlder_66 : decode cX0_growOlder 66 = .ok (.iload_n 2, 1) := by decide +kernel
theorem dX0_growOlder_67 : decode cX0_growOlder 67 = .ok (.iconst 0, 1) := by decide +kernel
theorem dX0_growOlder_68 : decode cX0_growOlder 68 = .ok (.iastore, 1) := by decide +kernel
theorem dX0_growOlder_69 : decode cX0_growOlder 69 = .ok (.iinc 2 (-1), 3) := by decide +kernel
theorem dX0_growOlder_72 : decode cX0_growOlder 72 = .ok (.goto (-35), 3) := by decide +kernel
theorem dX0_growOlder_75 : decode cX0_growOlder 75 = .ok (.return_, 1) := by decide +kernel
theorem dX0_markLight_0 : decode cX0_markLight 0 = .ok (.iload_n 1, 1) := by decide +kernel
theorem dX0_markLight_1 : decode cX0_markLight 1 = .ok (.ifCond .eq 21, 3) := by decide +kernel
theorem dX0_markLight_4 : decode cX0_markLight 4 = .ok (.aload_n 0, 1) := by decide +kernel
theorem dX0_markLight_5 : decode cX0_markLight 5 = .ok (.iconst 0, 1) := by decide +kernel
theorem dX0_markLight_6 : decode cX0_markLight 6 = .ok (.putfield 57, 3) := by decide +kernel
theorem dX0_markLight_9 : decode cX0_markLight 9 = .ok (.aload_n 0, 1) := by decide +kernel
theorem dX0_markLight_10 : decode cX0_markLight 10 = .ok (.dup, 1) := by decide +kernel
theorem dX0_markLight_11 : decode cX0_markLight 11 = .ok (.getfield 60, 3) := by decide +kernel
theorem dX0_markLight_14 : decode cX0_markLight 14 = .ok (.iconst 1, 1) := by decide +kernel
theorem dX0_markLight_15 : decode cX0_markLight 15 = .ok (.iadd, 1) := by decide +kernel
theorem dX0_markLight_16 : decode cX0_markLight 16 = .ok (.putfield 60, 3) := by decide +kernel
theorem dX0_markLight_19 : decode cX0_markLight 19 = .ok (.goto 28, 3) := by decide +kernel
theorem dX0_markLight_22 : decode cX0_markLight 22 = .ok (.aload_n 0, 1) := by decide +kernel
theorem dX0_markLight_23 : decode cX0_markLight 23 = .ok (.dup, 1) := by decide +kernel
theorem dX0_markLight_24 : decode cX0_markLight 24 = .ok (.getfield 57, 3) := by decide +kernel
theorem dX0_markLight_27 : decode cX0_markLight 27 = .ok (.iconst 1, 1) := by decide +kernel
theorem dX0_markLight_28 : decode cX0_markLight 28 = .ok (.iadd, 1) := by decide +kernel
theorem dX0_markLight_29 : decode cX0_markLight 29 = .ok (.putfield 57, 3) := by decide +kernel
theorem dX0_markLight_32 : decode cX0_markLight 32 = .ok (.aload_n 0, 1) := by decide +kernel
theorem dX0_markLight_33 : decode cX0_markLight 33 = .ok (.aload_n 0, 1) := by decide +kernel
theorem dX0_markLight_34 : decode cX0_markLight 34 = .ok (.getfield 63, 3) := by decide +kernel
theorem dX0_markLight_37 : decode cX0_markLight 37 = .ok (.aload_n 0, 1) := by decide +kernel
theorem dX0_markLight_38 : decode cX0_markLight 38 = .ok (.getfield 57, 3) := by decide +kernel
theorem dX0_markLight_41 : decode cX0_markLight 41 = .ok (.invokestatic 66, 3) := by decide +kernel
theorem dX0_markLight_44 : decode cX0_markLight 44 = .ok (.putfield 63, 3) := by decide +kernel
theorem dX0_markLight_47 : decode cX0_markLight 47 = .ok (.return_, 1) := by decide +kernel
theorem dX0_tell_0 : decode cX0_tell 0 = .ok (.iload_n 1, 1) := by decide +kernel
theorem dX0_tell_1 : decode cX0_tell 1 = .ok (.tableswitch 132 0 12 #[67, 72, 77, 82, 87, 92, 97, 102, 107, 112, 117, 122, 127], 67) := by decide +kernel
theorem dX0_tell_68 : decode cX0_tell 68 = .ok (.aload_n 0, 1) := by decide +kernel
theorem dX0_tell_69 : decode cX0_tell 69 = .ok (.invokevirtual 69, 3) := by decide +kernel
theorem dX0_tell_72 : decode cX0_tell 72 = .ok (.ireturn, 1) := by decide +kernel
theorem dX0_tell_73 : decode cX0_tell 73 = .ok (.aload_n 0, 1) := by decide +kernel
theorem dX0_tell_74 : decode cX0_tell 74 = .ok (.invokevirtual 45, 3) := by decide +kernel
theorem dX0_tell_77 : decode cX0_tell 77 = .ok (.ireturn, 1) := by decide +kernel
theorem dX0_tell_78 : decode cX0_tell 78 = .ok (.aload_n 0, 1) := by decide +kernel
theorem dX0_tell_79 : decode cX0_tell 79 = .ok (.getfield 25, 3) := by decide +kernel
theorem dX0_tell_82 : decode cX0_tell 82 = .ok (.ireturn, 1) := by decide +kernel
theorem dX0_tell_83 : decode cX0_tell 83 = .ok (.aload_n 0, 1) := by decide +kernel
theorem dX0_tell_84 : decode cX0_tell 84 = .ok (.getfield 72, 3) := by decide +kernel
theorem dX0_tell_87 : decode cX0_tell 87 = .ok (.ireturn, 1) := by decide +kernel
theorem dX0_tell_88 : decode cX0_tell 88 = .ok (.aload_n 0, 1) := by decide +kernel
theorem dX0_tell_89 : decode cX0_tell 89 = .ok (.getfield 75, 3) := by decide +kernel
theorem dX0_tell_92 : decode cX0_tell 92 = .ok (.ireturn, 1) := by decide +kernel
theorem dX0_tell_93 : decode cX0_tell 93 = .ok (.aload_n 0, 1) := by decide +kernel
theorem dX0_tell_94 : decode cX0_tell 94 = .ok (.getfield 54, 3) := by decide +kernel
theorem dX0_tell_97 : decode cX0_tell 97 = .ok (.ireturn, 1) := by decide +kernel
theorem dX0_tell_98 : decode cX0_tell 98 = .ok (.aload_n 0, 1) := by decide +kernel
theorem dX0_tell_99 : decode cX0_tell 99 = .ok (.invokevirtual 41, 3) := by decide +kernel
theorem dX0_tell_102 : decode cX0_tell 102 = .ok (.ireturn, 1) := by decide +kernel
theorem dX0_tell_103 : decode cX0_tell 103 = .ok (.aload_n 0, 1) := by decide +kernel
theorem dX0_tell_104 : decode cX0_tell 104 = .ok (.invokevirtual 78, 3) := by decide +kernel
theorem dX0_tell_107 : decode cX0_tell 107 = .ok (.ireturn, 1) := by decide +kernel
theorem dX0_tell_108 : decode cX0_tell 108 = .ok (.aload_n 0, 1) := by decide +kernel
theorem dX0_tell_109 : decode cX0_tell 109 = .ok (.getfield 63, 3) := by decide +kernel
theorem dX0_tell_112 : decode cX0_tell 112 = .ok (.ireturn, 1) := by decide +kernel
theorem dX0_tell_113 : decode cX0_tell 113 = .ok (.aload_n 0, 1) := by decide +kernel
theorem dX0_tell_114 : decode cX0_tell 114 = .ok (.getfield 60, 3) := by decide +kernel
theorem dX0_tell_117 : decode cX0_tell 117 = .ok (.ireturn, 1) := by decide +kernel
theorem dX0_tell_118 : decode cX0_tell 118 = .ok (.aload_n 0, 1) := by decide +kernel
theorem dX0_tell_119 : decode cX0_tell 119 = .ok (.getfield 81, 3) := by decide +kernel
theorem dX0_tell_122 : decode cX0_tell 122 = .ok (.ireturn, 1) := by decide +kernel
theorem dX0_tell_123 : decode cX0_tell 123 = .ok (.aload_n 0, 1) := by decide +kernel
theorem dX0_tell_124 : decode cX0_tell 124 = .ok (.getfield 28, 3) := by decide +kernel
theorem dX0_tell_127 : decode cX0_tell 127 = .ok (.ireturn, 1) := by decide +kernel
theorem dX0_tell_128 : decode cX0_tell 128 = .ok (.aload_n 0, 1) := by decide +kernel
theorem dX0_tell_129 : decode cX0_tell 129 = .ok (.getfield 22, 3) := by decide +kernel
theorem dX0_tell_132 : decode cX0_tell 132 = .ok (.ireturn, 1) := by decide +kernel
theorem dX0_tell_133 : decode cX0_tell 133 = .ok (.bipush (-2), 2) := by decide +kernel
theorem dX0_tell_135 : decode cX0_tell 135 = .ok (.ireturn, 1) := by decide +kernel
theorem dX0_tellUnits_0 : decode cX0_tellUnits 0 = .ok (.iload_n 1, 1) := by decide +kernel
theorem dX0_tellUnits_1 : decode cX0_tellUnits 1 = .ok (.tableswitch 42 0 2 #[27, 32, 37], 27) := by decide +kernel
theorem dX0_tellUnits_28 : decode cX0_tellUnits 28 = .ok (.aload_n 0, 1) := by decide +kernel
theorem dX0_tellUnits_29 : decode cX0_tellUnits 29 = .ok (.getfield 31, 3) := by decide +kernel
theorem dX0_tellUnits_32 : decode cX0_tellUnits 32 = .ok (.lreturn, 1) := by decide +kernel
theorem dX0_tellUnits_33 : decode cX0_tellUnits 33 = .ok (.aload_n 0, 1) := by decide +kernel
theorem dX0_tellUnits_34 : decode cX0_tellUnits 34 = .ok (.getfield 35, 3) := by decide +kernel
theorem dX0_tellUnits_37 : decode cX0_tellUnits 37 = .ok (.lreturn, 1) := by decide +kernel
theorem dX0_tellUnits_38 : decode cX0_tellUnits 38 = .ok (.aload_n 0, 1) := by decide +kernel
theorem dX0_tellUnits_39 : decode cX0_tellUnits 39 = .ok (.getfield 38, 3) := by decide +kernel
theorem dX0_tellUnits_42 : decode cX0_tellUnits 42 = .ok (.lreturn, 1) := by decide +kernel
theorem dX0_tellUnits_43 : decode cX0_tellUnits 43 = .ok (.ldc2_w 84, 3) := by decide +kernel
theorem dX0_tellUnits_46 : decode cX0_tellUnits 46 = .ok (.lreturn, 1) := by decide +kernel
theorem dX1_init_0 : decode cX1_init 0 = .ok (.aload_n 0, 1) := by decide +kernel
theorem dX1_init_1 : decode cX1_init 1 = .ok (.invokespecial 3, 3) := by decide +kernel
theorem dX1_init_4 : decode cX1_init 4 = .ok (.aload_n 0, 1) := by decide +kernel
theorem dX1_init_5 : decode cX1_init 5 = .ok (.bipush 90, 2) := by decide +kernel
theorem dX1_init_7 : decode cX1_init 7 = .ok (.newarray .int, 2) := by decide +kernel
theorem dX1_init_9 : decode cX1_init 9 = .ok (.putfield 9, 3) := by decide +kernel
theorem dX1_init_12 : decode cX1_init 12 = .ok (.return_, 1) := by decide +kernel
theorem dX1_has_0 : decode cX1_has 0 = .ok (.iload_n 1, 1) := by decide +kernel
theorem dX1_has_1 : decode cX1_has 1 = .ok (.ifCond .lt 15, 3) := by decide +kernel
theorem dX1_has_4 : decode cX1_has 4 = .ok (.iload_n 1, 1) := by decide +kernel
theorem dX1_has_5 : decode cX1_has 5 = .ok (.aload_n 0, 1) := by decide +kernel
theorem dX1_has_6 : decode cX1_has 6 = .ok (.getfield 15, 3) := by decide +kernel
theorem dX1_has_9 : decode cX1_has 9 = .ok (.if_icmp .ge 7, 3) := by decide +kernel
theorem dX1_has_12 : decode cX1_has 12 = .ok (.iconst 1, 1) := by decide +kernel
theorem dX1_has_13 : decode cX1_has 13 = .ok (.goto 4, 3) := by decide +kernel
theorem dX1_has_16 : decode cX1_has 16 = .ok (.iconst 0, 1) := by decide +kernel
theorem dX1_has_17 : decode cX1_has 17 = .ok (.ireturn, 1) := by decide +kernel
theorem dX2_init_0 : decode cX2_init 0 = .ok (.aload_n 0, 1) := by decide +kernel
theorem dX2_init_1 : decode cX2_init 1 = .ok (.invokespecial 3, 3) := by decide +kernel
theorem dX2_init_4 : decode cX2_init 4 = .ok (.aload_n 0, 1) := by decide +kernel
theorem dX2_init_5 : decode cX2_init 5 = .ok (.bipush 10, 2) := by decide +kernel
theorem dX2_init_7 : decode cX2_init 7 = .ok (.anewarray 9, 3) := by decide +kernel
theorem dX2_init_10 : decode cX2_init 10 = .ok (.putfield 11, 3) := by decide +kernel
theorem dX2_init_13 : decode cX2_init 13 = .ok (.aload_n 0, 1) := by decide +kernel
theorem dX2_init_14 : decode cX2_init 14 = .ok (.iconst 3, 1) := by decide +kernel
theorem dX2_init_15 : decode cX2_init 15 = .ok (.newarray .int, 2) := by decide +kernel
theorem dX2_init_17 : decode cX2_init 17 = .ok (.dup, 1) := by decide +kernel
theorem dX2_init_18 : decode cX2_init 18 = .ok (.iconst 0, 1) := by decide +kernel
theorem dX2_init_19 : decode cX2_init 19 = .ok (.bipush 10, 2) := by decide +kernel
theorem dX2_init_21 : decode cX2_init 21 = .ok (.iastore, 1) := by decide +kernel
theorem dX2_init_22 : decode cX2_init 22 = .ok (.dup, 1) := by decide +kernel
theorem dX2_init_23 : decode cX2_init 23 = .ok (.iconst 1, 1) := by decide +kernel
theorem dX2_init_24 : decode cX2_init 24 = .ok (.bipush 10, 2) := by decide +kernel
theorem dX2_init_26 : decode cX2_init 26 = .ok (.iastore, 1) := by decide +kernel
theorem dX2_init_27 : decode cX2_init 27 = .ok (.dup, 1) := by decide +kernel
theorem dX2_init_28 : decode cX2_init 28 = .ok (.iconst 2, 1) := by decide +kernel
theorem dX2_init_29 : decode cX2_init 29 = .ok (.bipush 10, 2) := by decide +kernel
theorem dX2_init_31 : decode cX2_init 31 = .ok (.iastore, 1) := by decide +kernel
theorem dX2_init_32 : decode cX2_init 32 = .ok (.putfield 17, 3) := by decide +kernel
theorem dX2_init_35 : decode cX2_init 35 = .ok (.aload_n 0, 1) := by decide +kernel
theorem dX2_init_36 : decode cX2_init 36 = .ok (.iconst 3, 1) := by decide +kernel
theorem dX2_init_37 : decode cX2_init 37 = .ok (.newarray .boolean, 2) := by decide +kernel
theorem dX2_init_39 : decode cX2_init 39 = .ok (.dup, 1) := by decide +kernel
theorem dX2_init_40 : decode cX2_init 40 = .ok (.iconst 0, 1) := by decide +kernel
theorem dX2_init_41 : decode cX2_init 41 = .ok (.iconst 1, 1) := by decide +kernel
theorem dX2_init_42 : decode cX2_init 42 = .ok (.bastore, 1) := by decide +kernel
theorem dX2_init_43 : decode cX2_init 43 = .ok (.dup, 1) := by decide +kernel
theorem dX2_init_44 : decode cX2_init 44 = .ok (.iconst 1, 1) := by decide +kernel
theorem dX2_init_45 : decode cX2_init 45 = .ok (.iconst 1, 1) := by decide +kernel
theorem dX2_init_46 : decode cX2_init 46 = .ok (.bastore, 1) := by decide +kernel
theorem dX2_init_47 : decode cX2_init 47 = .ok (.dup, 1) := by decide +kernel
theorem dX2_init_48 : decode cX2_init 48 = .ok (.iconst 2, 1) := by decide +kernel
theorem dX2_init_49 : decode cX2_init 49 = .ok (.iconst 1, 1) := by decide +kernel
theorem dX2_init_50 : decode cX2_init 50 = .ok (.bastore, 1) := by decide +kernel
theorem dX2_init_51 : decode cX2_init 51 = .ok (.putfield 21, 3) := by decide +kernel
theorem dX2_init_54 : decode cX2_init 54 = .ok (.aload_n 0, 1) := by decide +kernel
theorem dX2_init_55 : decode cX2_init 55 = .ok (.iconst 2, 1) := by decide +kernel
theorem dX2_init_56 : decode cX2_init 56 = .ok (.putfield 25, 3) := by decide +kernel
theorem dX2_init_59 : decode cX2_init 59 = .ok (.aload_n 0, 1) := by decide +kernel
theorem dX2_init_60 : decode cX2_init 60 = .ok (.bipush 100, 2) := by decide +kernel
theorem dX2_init_62 : decode cX2_init 62 = .ok (.putfield 29, 3) := by decide +kernel
theorem dX2_init_65 : decode cX2_init 65 = .ok (.aload_n 0, 1) := by decide +kernel
theorem dX2_init_66 : decode cX2_init 66 = .ok (.bipush 8, 2) := by decide +kernel
theorem dX2_init_68 : decode cX2_init 68 = .ok (.putfield 32, 3) := by decide +kernel
theorem dX2_init_71 : decode cX2_init 71 = .ok (.aload_n 0, 1) := by decide +kernel
theorem dX2_init_72 : decode cX2_init 72 = .ok (.iconst 2, 1) := by decide +kernel
theorem dX2_init_73 : decode cX2_init 73 = .ok (.putfield 35, 3) := by decide +kernel
theorem dX2_init_76 : decode cX2_init 76 = .ok (.return_, 1) := by decide +kernel
theorem dX2_hasCell_0 : decode cX2_hasCell 0 = .ok (.iload_n 1, 1) := by decide +kernel
theorem dX2_hasCell_1 : decode cX2_hasCell 1 = .ok (.ifCond .lt 15, 3) := by decide +kernel
theorem dX2_hasCell_4 : decode cX2_hasCell 4 = .ok (.iload_n 1, 1) := by decide +kernel
theorem dX2_hasCell_5 : decode cX2_hasCell 5 = .ok (.aload_n 0, 1) := by decide +kernel
theorem dX2_hasCell_6 : decode cX2_hasCell 6 = .ok (.getfield 38, 3) := by decide +kernel
theorem dX2_hasCell_9 : decode cX2_hasCell 9 = .ok (.if_icmp .ge 7, 3) := by decide +kernel
theorem dX2_hasCell_12 : decode cX2_hasCell 12 = .ok (.iconst 1, 1) := by decide +kernel
theorem dX2_hasCell_13 : decode cX2_hasCell 13 = .ok (.goto 4, 3) := by decide +kernel
theorem dX2_hasCell_16 : decode cX2_hasCell 16 = .ok (.iconst 0, 1) := by decide +kernel
theorem dX2_hasCell_17 : decode cX2_hasCell 17 = .ok (.ireturn, 1) := by decide +kernel
theorem dX2_allCells_0 : decode cX2_allCells 0 = .ok (.iconst 1, 1) := by decide +kernel
theorem dX2_allCells_1 : decode cX2_allCells 1 = .ok (.aload_n 0, 1) := by decide +kernel
theorem dX2_allCells_2 : decode cX2_allCells 2 = .ok (.getfield 38, 3) := by decide +kernel
theorem dX2_allCells_5 : decode cX2_allCells 5 = .ok (.ishl, 1) := by decide +kernel
theorem dX2_allCells_6 : decode cX2_allCells 6 = .ok (.iconst 1, 1) := by decide +kernel
theorem dX2_allCells_7 : decode cX2_allCells 7 = .ok (.isub, 1) := by decide +kernel
theorem dX2_allCells_8 : decode cX2_allCells 8 = .ok (.ireturn, 1) := by decide +kernel
theorem dX2_allows_0 : decode cX2_allows 0 = .ok (.iload_n 1, 1) := by decide +kernel
theorem dX2_allows_1 : decode cX2_allows 1 = .ok (.invokestatic 41, 3) := by decide +kernel
theorem dX2_allows_4 : decode cX2_allows 4 = .ok (.aload_n 0, 1) := by decide +kernel
theorem dX2_allows_5 : decode cX2_allows 5 = .ok (.getfield 25, 3) := by decide +kernel
theorem dX2_allows_8 : decode cX2_allows 8 = .ok (.if_icmp .le 5, 3) := by decide +kernel
theorem dX2_allows_11 : decode cX2_allows 11 = .ok (.iconst 0, 1) := by decide +kernel
theorem dX2_allows_12 : decode cX2_allows 12 = .ok (.ireturn, 1) := by decide +kernel
theorem dX2_allows_13 : decode cX2_allows 13 = .ok (.iconst 0, 1) := by decide +kernel
theorem dX2_allows_14 : decode cX2_allows 14 = .ok (.istore_n 2, 1) := by decide +kernel
theorem dX2_allows_15 : decode cX2_allows 15 = .ok (.iconst 0, 1) := by decide +kernel
theorem dX2_allows_16 : decode cX2_allows 16 = .ok (.istore_n 3, 1) := by decide +kernel
theorem dX2_allows_17 : decode cX2_allows 17 = .ok (.iconst 0, 1) := by decide +kernel
theorem dX2_allows_18 : decode cX2_allows 18 = .ok (.istore 4, 2) := by decide +kernel
theorem dX2_allows_20 : decode cX2_allows 20 = .ok (.iload 4, 2) := by decide +kernel
theorem dX2_allows_22 : decode cX2_allows 22 = .ok (.aload_n 0, 1) := by decide +kernel
theorem dX2_allows_23 : decode cX2_allows 23 = .ok (.getfield 38, 3) := by decide +kernel
theorem dX2_allows_26 : decode cX2_allows 26 = .ok (.if_icmp .ge 80, 3) := by decide +kernel
theorem dX2_allows_29 : decode cX2_allows 29 = .ok (.iload_n 1, 1) := by decide +kernel
theorem dX2_allows_30 : decode cX2_allows 30 = .ok (.iload 4, 2) := by decide +kernel
theorem dX2_allows_32 : decode cX2_allows 32 = .ok (.invokestatic 47, 3) := by decide +kernel
theorem dX2_allows_35 : decode cX2_allows 35 = .ok (.ifCond .eq 65, 3) := by decide +kernel
theorem dX2_allows_38 : decode cX2_allows 38 = .ok (.aload_n 0, 1) := by decide +kernel
theorem dX2_allows_39 : decode cX2_allows 39 = .ok (.getfield 11, 3) := by decide +kernel
theorem dX2_allows_42 : decode cX2_allows 42 = .ok (.iload 4, 2) := by decide +kernel
theorem dX2_allows_44 : decode cX2_allows 44 = .ok (.aaload, 1) := by decide +kernel
theorem dX2_allows_45 : decode cX2_allows 45 = .ok (.astore 5, 2) := by decide +kernel
theorem dX2_allows_47 : decode cX2_allows 47 = .ok (.aload 5, 2) := by decide +kernel
theorem dX2_allows_49 : decode cX2_allows 49 = .ok (.getfield 51, 3) := by decide +kernel
theorem dX2_allows_52 : decode cX2_allows 52 = .ok (.iload_n 1, 1) := by decide +kernel
theorem dX2_allows_53 : decode cX2_allows 53 = .ok (.iand, 1) := by decide +kernel
theorem dX2_allows_54 : decode cX2_allows 54 = .ok (.ifCond .ne 24, 3) := by decide +kernel
theorem dX2_allows_57 : decode cX2_allows 57 = .ok (.aload 5, 2) := by decide +kernel
theorem dX2_allows_59 : decode cX2_allows 59 = .ok (.getfield 54, 3) := by decide +kernel
theorem dX2_allows_62 : decode cX2_allows 62 = .ok (.ifCond .gt 16, 3) := by decide +kernel
theorem dX2_allows_65 : decode cX2_allows 65 = .ok (.aload_n 0, 1) := by decide +kernel
theorem dX2_allows_66 : decode cX2_allows 66 = .ok (.getfield 21, 3) := by decide +kernel
theorem dX2_allows_69 : decode cX2_allows 69 = .ok (.aload 5, 2) := by decide +kernel
theorem dX2_allows_71 : decode cX2_allows 71 = .ok (.getfield 57, 3) := by decide +kernel
theorem dX2_allows_74 : decode cX2_allows 74 = .ok (.baload, 1) := by decide +kernel
theorem dX2_allows_75 : decode cX2_allows 75 = .ok (.ifCond .ne 5, 3) := by decide +kernel
theorem dX2_allows_78 : decode cX2_allows 78 = .ok (.iconst 0, 1) := by decide +kernel
theorem dX2_allows_79 : decode cX2_allows 79 = .ok (.ireturn, 1) := by decide +kernel
theorem dX2_allows_80 : decode cX2_allows 80 = .ok (.iload_n 2, 1) := by decide +kernel
theorem dX2_allows_81 : decode cX2_allows 81 = .ok (.aload 5, 2) := by decide +kernel
theorem dX2_allows_83 : decode cX2_allows 83 = .ok (.invokevirtual 60, 3) := by decide +kernel
theorem dX2_allows_86 : decode cX2_allows 86 = .ok (.iadd, 1) := by decide +kernel
theorem dX2_allows_87 : decode cX2_allows 87 = .ok (.istore_n 2, 1) := by decide +kernel
theorem dX2_allows_88 : decode cX2_allows 88 = .ok (.iload_n 3, 1) := by decide +kernel
theorem dX2_allows_89 : decode cX2_allows 89 = .ok (.iconst 1, 1) := by decide +kernel
theorem dX2_allows_90 : decode cX2_allows 90 = .ok (.iconst 4, 1) := by decide +kernel
theorem dX2_allows_91 : decode cX2_allows 91 = .ok (.aload 5, 2) := by decide +kernel
theorem dX2_allows_93 : decode cX2_allows 93 = .ok (.getfield 57, 3) := by decide +kernel
theorem dX2_allows_96 : decode cX2_allows 96 = .ok (.imul, 1) := by decide +kernel
theorem dX2_allows_97 : decode cX2_allows 97 = .ok (.ishl, 1) := by decide +kernel
theorem dX2_allows_98 : decode cX2_allows 98 = .ok (.iadd, 1) := by decide +kernel
theorem dX2_allows_99 : decode cX2_allows 99 = .ok (.istore_n 3, 1) := by decide +kernel
theorem dX2_allows_100 : decode cX2_allows 100 = .ok (.iinc 4 1, 3) := by decide +kernel
theorem dX2_allows_103 : decode cX2_allows 103 = .ok (.goto (-83), 3) := by decide +kernel
theorem dX2_allows_106 : decode cX2_allows 106 = .ok (.iload_n 2, 1) := by decide +kernel
theorem dX2_allows_107 : decode cX2_allows 107 = .ok (.aload_n 0, 1) := by decide +kernel
theorem dX2_allows_108 : decode cX2_allows 108 = .ok (.getfield 29, 3) := by decide +kernel
theorem dX2_allows_111 : decode cX2_allows 111 = .ok (.if_icmp .gt 15, 3) := by decide +kernel
theorem dX2_allows_114 : decode cX2_allows 114 = .ok (.aload_n 0, 1) := by decide +kernel
theorem dX2_allows_115 : decode cX2_allows 115 = .ok (.iload_n 3, 1) := by decide +kernel
theorem dX2_allows_116 : decode cX2_allows 116 = .ok (.invokevirtual 64, 3) := by decide +kernel
theorem dX2_allows_119 : decode cX2_allows 119 = .ok (.ifCond .eq 7, 3) := by decide +kernel
theorem dX2_allows_122 : decode cX2_allows 122 = .ok (.iconst 1, 1) := by decide +kernel
theorem dX2_allows_123 : decode cX2_allows 123 = .ok (.goto 4, 3) := by decide +kernel
theorem dX2_allows_126 : decode cX2_allows 126 = .ok (.iconst 0, 1) := by decide +kernel
theorem dX2_allows_127 : decode cX2_allows 127 = .ok (.ireturn, 1) := by decide +kernel
theorem dX2_haveRoom_0 : decode cX2_haveRoom 0 = .ok (.iconst 0, 1) := by decide +kernel
theorem dX2_haveRoom_1 : decode cX2_haveRoom 1 = .ok (.istore_n 2, 1) := by decide +kernel
theorem dX2_haveRoom_2 : decode cX2_haveRoom 2 = .ok (.iload_n 2, 1) := by decide +kernel
theorem dX2_haveRoom_3 : decode cX2_haveRoom 3 = .ok (.iconst 3, 1) := by decide +kernel
theorem dX2_haveRoom_4 : decode cX2_haveRoom 4 = .ok (.if_icmp .ge 28, 3) := by decide +kernel
theorem dX2_haveRoom_7 : decode cX2_haveRoom 7 = .ok (.iload_n 1, 1) := by decide +kernel
theorem dX2_haveRoom_8 : decode cX2_haveRoom 8 = .ok (.iconst 4, 1) := by decide +kernel
theorem dX2_haveRoom_9 : decode cX2_haveRoom 9 = .ok (.iload_n 2, 1) := by decide +kernel
theorem dX2_haveRoom_10 : decode cX2_haveRoom 10 = .ok (.imul, 1) := by decide +kernel
theorem dX2_haveRoom_11 : decode cX2_haveRoom 11 = .ok (.ishr, 1) := by decide +kernel
theorem dX2_haveRoom_12 : decode cX2_haveRoom 12 = .ok (.bipush 15, 2) := by decide +kernel
theorem dX2_haveRoom_14 : decode cX2_haveRoom 14 = .ok (.iand, 1) := by decide +kernel
theorem dX2_haveRoom_15 : decode cX2_haveRoom 15 = .ok (.aload_n 0, 1) := by decide +kernel
theorem dX2_haveRoom_16 : decode cX2_haveRoom 16 = .ok (.getfield 17, 3) := by decide +kernel
theorem dX2_haveRoom_19 : decode cX2_haveRoom 19 = .ok (.iload_n 2, 1) := by decide +kernel
theorem dX2_haveRoom_20 : decode cX2_haveRoom 20 = .ok (.iaload, 1) := by decide +kernel
theorem dX2_haveRoom_21 : decode cX2_haveRoom 21 = .ok (.if_icmp .le 5, 3) := by decide +kernel
theorem dX2_haveRoom_24 : decode cX2_haveRoom 24 = .ok (.iconst 0, 1) := by decide +kernel
theorem dX2_haveRoom_25 : decode cX2_haveRoom 25 = .ok (.ireturn, 1) := by decide +kernel
theorem dX2_haveRoom_26 : decode cX2_haveRoom 26 = .ok (.iinc 2 1, 3) := by decide +kernel
theorem dX2_haveRoom_29 : decode cX2_haveRoom 29 = .ok (.goto (-27), 3) := by decide +kernel
theorem dX2_haveRoom_32 : decode cX2_haveRoom 32 = .ok (.iconst 1, 1) := by decide +kernel
theorem dX2_haveRoom_33 : decode cX2_haveRoom 33 = .ok (.ireturn, 1) := by decide +kernel
theorem dX2_cellsOf_0 : decode cX2_cellsOf 0 = .ok (.iconst 0, 1) := by decide +kernel
theorem dX2_cellsOf_1 : decode cX2_cellsOf 1 = .ok (.istore_n 2, 1) := by decide +kernel
theorem dX2_cellsOf_2 : decode cX2_cellsOf 2 = .ok (.iconst 0, 1) := by decide +kernel
theorem dX2_cellsOf_3 : decode cX2_cellsOf 3 = .ok (.istore_n 3, 1) := by decide +kernel
theorem dX2_cellsOf_4 : decode cX2_cellsOf 4 = .ok (.iload_n 3, 1) := by decide +kernel
theorem dX2_cellsOf_5 : decode cX2_cellsOf 5 = .ok (.aload_n 0, 1) := by decide +kernel
theorem dX2_cellsOf_6 : decode cX2_cellsOf 6 = .ok (.getfield 38, 3) := by decide +kernel
theorem dX2_cellsOf_9 : decode cX2_cellsOf 9 = .ok (.if_icmp .ge 25, 3) := by decide +kernel
theorem dX2_cellsOf_12 : decode cX2_cellsOf 12 = .ok (.aload_n 0, 1) := by decide +kernel
theorem dX2_cellsOf_13 : decode cX2_cellsOf 13 = .ok (.getfield 11, 3) := by decide +kernel
theorem dX2_cellsOf_16 : decode cX2_cellsOf 16 = .ok (.iload_n 3, 1) := by decide +kernel
theorem dX2_cellsOf_17 : decode cX2_cellsOf 17 = .ok (.aaload, 1) := by decide +kernel
theorem dX2_cellsOf_18 : decode cX2_cellsOf 18 = .ok (.getfield 57, 3) := by decide +kernel
theorem dX2_cellsOf_21 : decode cX2_cellsOf 21 = .ok (.iload_n 1, 1) := by decide +kernel
theorem dX2_cellsOf_22 : decode cX2_cellsOf 22 = .ok (.if_icmp .ne 6, 3) := by decide +kernel
theorem dX2_cellsOf_25 : decode cX2_cellsOf 25 = .ok (.iinc 2 1, 3) := by decide +kernel
theorem dX2_cellsOf_28 : decode cX2_cellsOf 28 = .ok (.iinc 3 1, 3) := by decide +kernel
theorem dX2_cellsOf_31 : decode cX2_cellsOf 31 = .ok (.goto (-27), 3) := by decide +kernel
theorem dX2_cellsOf_34 : decode cX2_cellsOf 34 = .ok (.iload_n 2, 1) := by decide +kernel
theorem dX2_cellsOf_35 : decode cX2_cellsOf 35 = .ok (.ireturn, 1) := by decide +kernel
theorem dX2_canMeetNeeds_0 : decode cX2_canMeetNeeds 0 = .ok (.iconst 0, 1) := by decide +kernel
theorem dX2_canMeetNeeds_1 : decode cX2_canMeetNeeds 1 = .ok (.istore_n 1, 1) := by decide +kernel
theorem dX2_canMeetNeeds_2 : decode cX2_canMeetNeeds 2 = .ok (.iload_n 1, 1) := by decide +kernel
theorem dX2_canMeetNeeds_3 : decode cX2_canMeetNeeds 3 = .ok (.aload_n 0, 1) := by decide +kernel
theorem dX2_canMeetNeeds_4 : decode cX2_canMeetNeeds 4 = .ok (.getfield 38, 3) := by decide +kernel
theorem dX2_canMeetNeeds_7 : decode cX2_canMeetNeeds 7 = .ok (.if_icmp .ge 33, 3) := by decide +kernel
theorem dX2_canMeetNeeds_10 : decode cX2_canMeetNeeds 10 = .ok (.aload_n 0, 1) := by decide +kernel
theorem dX2_canMeetNeeds_11 : decode cX2_canMeetNeeds 11 = .ok (.getfield 11, 3) := by decide +kernel
theorem dX2_canMeetNeeds_14 : decode cX2_canMeetNeeds 14 = .ok (.iload_n 1, 1) := by decide +kernel
theorem dX2_canMeetNeeds_15 : decode cX2_canMeetNeeds 15 = .ok (.aaload, 1) := by decide +kernel
theorem dX2_canMeetNeeds_16 : decode cX2_canMeetNeeds 16 = .ok (.getfield 68, 3) := by decide +kernel
theorem dX2_canMeetNeeds_19 : decode cX2_canMeetNeeds 19 = .ok (.ifCond .le 15, 3) := by decide +kernel
theorem dX2_canMeetNeeds_22 : decode cX2_canMeetNeeds 22 = .ok (.aload_n 0, 1) := by decide +kernel
theorem dX2_canMeetNeeds_23 : decode cX2_canMeetNeeds 23 = .ok (.iconst 1, 1) := by decide +kernel
theorem dX2_canMeetNeeds_24 : decode cX2_canMeetNeeds 24 = .ok (.iload_n 1, 1) := by decide +kernel
theorem dX2_canMeetNeeds_25 : decode cX2_canMeetNeeds 25 = .ok (.ishl, 1) := by decide +kernel
theorem dX2_canMeetNeeds_26 : decode cX2_canMeetNeeds 26 = .ok (.invokevirtual 71, 3) := by decide +kernel
theorem dX2_canMeetNeeds_29 : decode cX2_canMeetNeeds 29 = .ok (.ifCond .ne 5, 3) := by decide +kernel
theorem dX2_canMeetNeeds_32 : decode cX2_canMeetNeeds 32 = .ok (.iconst 0, 1) := by decide +kernel
theorem dX2_canMeetNeeds_33 : decode cX2_canMeetNeeds 33 = .ok (.ireturn, 1) := by decide +kernel
theorem dX2_canMeetNeeds_34 : decode cX2_canMeetNeeds 34 = .ok (.iinc 1 1, 3) := by decide +kernel
theorem dX2_canMeetNeeds_37 : decode cX2_canMeetNeeds 37 = .ok (.goto (-35), 3) := by decide +kernel
theorem dX2_canMeetNeeds_40 : decode cX2_canMeetNeeds 40 = .ok (.iconst 1, 1) := by decide +kernel
theorem dX2_canMeetNeeds_41 : decode cX2_canMeetNeeds 41 = .ok (.ireturn, 1) := by decide +kernel
theorem dX2_lacksAtFirst_0 : decode cX2_lacksAtFirst 0 = .ok (.lconst 0, 1) := by decide +kernel
theorem dX2_lacksAtFirst_1 : decode cX2_lacksAtFirst 1 = .ok (.lstore_n 1, 1) := by decide +kernel
theorem dX2_lacksAtFirst_2 : decode cX2_lacksAtFirst 2 = .ok (.iconst 0, 1) := by decide +kernel
theorem dX2_lacksAtFirst_3 : decode cX2_lacksAtFirst 3 = .ok (.istore_n 3, 1) := by decide +kernel
theorem dX2_lacksAtFirst_4 : decode cX2_lacksAtFirst 4 = .ok (.iload_n 3, 1) := by decide +kernel
theorem dX2_lacksAtFirst_5 : decode cX2_lacksAtFirst 5 = .ok (.aload_n 0, 1) := by decide +kernel
theorem dX2_lacksAtFirst_6 : decode cX2_lacksAtFirst 6 = .ok (.getfield 38, 3) := by decide +kernel
theorem dX2_lacksAtFirst_9 : decode cX2_lacksAtFirst 9 = .ok (.if_icmp .ge 26, 3) := by decide +kernel
theorem dX2_lacksAtFirst_12 : decode cX2_lacksAtFirst 12 = .ok (.lload_n 1, 1) := by decide +kernel
theorem dX2_lacksAtFirst_13 : decode cX2_lacksAtFirst 13 = .ok (.aload_n 0, 1) := by decide +kernel
theorem dX2_lacksAtFirst_14 : decode cX2_lacksAtFirst 14 = .ok (.getfield 11, 3) := by decide +kernel
theorem dX2_lacksAtFirst_17 : decode cX2_lacksAtFirst 17 = .ok (.iload_n 3, 1) := by decide +kernel
theorem dX2_lacksAtFirst_18 : decode cX2_lacksAtFirst 18 = .ok (.aaload, 1) := by decide +kernel
theorem dX2_lacksAtFirst_19 : decode cX2_lacksAtFirst 19 = .ok (.getfield 68, 3) := by decide +kernel
theorem dX2_lacksAtFirst_22 : decode cX2_lacksAtFirst 22 = .ok (.i2l, 1) := by decide +kernel
theorem dX2_lacksAtFirst_23 : decode cX2_lacksAtFirst 23 = .ok (.iconst 4, 1) := by decide +kernel
theorem dX2_lacksAtFirst_24 : decode cX2_lacksAtFirst 24 = .ok (.iload_n 3, 1) := by decide +kernel
theorem dX2_lacksAtFirst_25 : decode cX2_lacksAtFirst 25 = .ok (.imul, 1) := by decide +kernel
theorem dX2_lacksAtFirst_26 : decode cX2_lacksAtFirst 26 = .ok (.lshl, 1) := by decide +kernel
theorem dX2_lacksAtFirst_27 : decode cX2_lacksAtFirst 27 = .ok (.lor, 1) := by decide +kernel
theorem dX2_lacksAtFirst_28 : decode cX2_lacksAtFirst 28 = .ok (.lstore_n 1, 1) := by decide +kernel
theorem dX2_lacksAtFirst_29 : decode cX2_lacksAtFirst 29 = .ok (.iinc 3 1, 3) := by decide +kernel
theorem dX2_lacksAtFirst_32 : decode cX2_lacksAtFirst 32 = .ok (.goto (-28), 3) := by decide +kernel
theorem dX2_lacksAtFirst_35 : decode cX2_lacksAtFirst 35 = .ok (.lload_n 1, 1) := by decide +kernel
theorem dX2_lacksAtFirst_36 : decode cX2_lacksAtFirst 36 = .ok (.lreturn, 1) := by decide +kernel
theorem dX2_takeAsked_0 : decode cX2_takeAsked 0 = .ok (.iconst 0, 1) := by decide +kernel
theorem dX2_takeAsked_1 : decode cX2_takeAsked 1 = .ok (.istore_n 1, 1) := by decide +kernel
theorem dX2_takeAsked_2 : decode cX2_takeAsked 2 = .ok (.iload_n 1, 1) := by decide +kernel
theorem dX2_takeAsked_3 : decode cX2_takeAsked 3 = .ok (.aload_n 0, 1) := by decide +kernel
theorem dX2_takeAsked_4 : decode cX2_takeAsked 4 = .ok (.getfield 38, 3) := by decide +kernel
theorem dX2_takeAsked_7 : decode cX2_takeAsked 7 = .ok (.if_icmp .ge 18, 3) := by decide +kernel
theorem dX2_takeAsked_10 : decode cX2_takeAsked 10 = .ok (.aload_n 0, 1) := by decide +kernel
theorem dX2_takeAsked_11 : decode cX2_takeAsked 11 = .ok (.getfield 11, 3) := by decide +kernel
theorem dX2_takeAsked_14 : decode cX2_takeAsked 14 = .ok (.iload_n 1, 1) := by decide +kernel
theorem dX2_takeAsked_15 : decode cX2_takeAsked 15 = .ok (.aaload, 1) := by decide +kernel
theorem dX2_takeAsked_16 : decode cX2_takeAsked 16 = .ok (.invokevirtual 76, 3) := by decide +kernel
theorem dX2_takeAsked_19 : decode cX2_takeAsked 19 = .ok (.iinc 1 1, 3) := by decide +kernel
theorem dX2_takeAsked_22 : decode cX2_takeAsked 22 = .ok (.goto (-20), 3) := by decide +kernel
theorem dX2_takeAsked_25 : decode cX2_takeAsked 25 = .ok (.return_, 1) := by decide +kernel
theorem dX2_serve_0 : decode cX2_serve 0 = .ok (.iconst 0, 1) := by decide +kernel
theorem dX2_serve_1 : decode cX2_serve 1 = .ok (.istore_n 2, 1) := by decide +kernel
theorem dX2_serve_2 : decode cX2_serve 2 = .ok (.iload_n 2, 1) := by decide +kernel
theorem dX2_serve_3 : decode cX2_serve 3 = .ok (.aload_n 0, 1) := by decide +kernel
theorem dX2_serve_4 : decode cX2_serve 4 = .ok (.getfield 38, 3) := by decide +kernel
theorem dX2_serve_7 : decode cX2_serve 7 = .ok (.if_icmp .ge 51, 3) := by decide +kernel
theorem dX2_serve_10 : decode cX2_serve 10 = .ok (.iload_n 1, 1) := by decide +kernel
theorem dX2_serve_11 : decode cX2_serve 11 = .ok (.iload_n 2, 1) := by decide +kernel
theorem dX2_serve_12 : decode cX2_serve 12 = .ok (.invokestatic 47, 3) := by decide +kernel
theorem dX2_serve_15 : decode cX2_serve 15 = .ok (.istore_n 3, 1) := by decide +kernel
theorem dX2_serve_16 : decode cX2_serve 16 = .ok (.iload_n 3, 1) := by decide +kernel
theorem dX2_serve_17 : decode cX2_serve 17 = .ok (.ifCond .eq 12, 3) := by decide +kernel
theorem dX2_serve_20 : decode cX2_serve 20 = .ok (.aload_n 0, 1) := by decide +kernel
theorem dX2_serve_21 : decode cX2_serve 21 = .ok (.getfield 11, 3) := by decide +kernel
theorem dX2_serve_24 : decode cX2_serve 24 = .ok (.iload_n 2, 1) := by decide +kernel
theorem dX2_serve_25 : decode cX2_serve 25 = .ok (.aaload, 1) := by decide +kernel
theorem dX2_serve_26 : decode cX2_serve 26 = .ok (.invokevirtual 79, 3) := by decide +kernel
theorem dX2_serve_29 : decode cX2_serve 29 = .ok (.aload_n 0, 1) := by decide +kernel
theorem dX2_serve_30 : decode cX2_serve 30 = .ok (.getfield 11, 3) := by decide +kernel
theorem dX2_serve_33 : decode cX2_serve 33 = .ok (.iload_n 2, 1) := by decide +kernel
theorem dX2_serve_34 : decode cX2_serve 34 = .ok (.aaload, 1) := by decide +kernel
theorem dX2_serve_35 : decode cX2_serve 35 = .ok (.iload_n 3, 1) := by decide +kernel
theorem dX2_serve_36 : decode cX2_serve 36 = .ok (.invokevirtual 82, 3) := by decide +kernel
theorem dX2_serve_39 : decode cX2_serve 39 = .ok (.aload_n 0, 1) := by decide +kernel
theorem dX2_serve_40 : decode cX2_serve 40 = .ok (.getfield 11, 3) := by decide +kernel
theorem dX2_serve_43 : decode cX2_serve 43 = .ok (.iload_n 2, 1) := by decide +kernel
theorem dX2_serve_44 : decode cX2_serve 44 = .ok (.aaload, 1) := by decide +kernel
theorem dX2_serve_45 : decode cX2_serve 45 = .ok (.aload_n 0, 1) := by decide +kernel
theorem dX2_serve_46 : decode cX2_serve 46 = .ok (.getfield 32, 3) := by decide +kernel
theorem dX2_serve_49 : decode cX2_serve 49 = .ok (.invokevirtual 86, 3) := by decide +kernel
theorem dX2_serve_52 : decode cX2_serve 52 = .ok (.iinc 2 1, 3) := by decide +kernel
theorem dX2_serve_55 : decode cX2_serve 55 = .ok (.goto (-53), 3) := by decide +kernel
theorem dX2_serve_58 : decode cX2_serve 58 = .ok (.return_, 1) := by decide +kernel
theorem dX2_handOn_0 : decode cX2_handOn 0 = .ok (.iconst 0, 1) := by decide +kernel
theorem dX2_handOn_1 : decode cX2_handOn 1 = .ok (.istore_n 1, 1) := by decide +kernel
theorem dX2_handOn_2 : decode cX2_handOn 2 = .ok (.iconst 0, 1) := by decide +kernel
theorem dX2_handOn_3 : decode cX2_handOn 3 = .ok (.istore_n 2, 1) := by decide +kernel
theorem dX2_handOn_4 : decode cX2_handOn 4 = .ok (.iload_n 2, 1) := by decide +kernel
theorem dX2_handOn_5 : decode cX2_handOn 5 = .ok (.aload_n 0, 1) := by decide +kernel
theorem dX2_handOn_6 : decode cX2_handOn 6 = .ok (.getfield 38, 3) := by decide +kernel
theorem dX2_handOn_9 : decode cX2_handOn 9 = .ok (.if_icmp .ge 56, 3) := by decide +kernel
theorem dX2_handOn_12 : decode cX2_handOn 12 = .ok (.aload_n 0, 1) := by decide +kernel
theorem dX2_handOn_13 : decode cX2_handOn 13 = .ok (.getfield 11, 3) := by decide +kernel
theorem dX2_handOn_16 : decode cX2_handOn 16 = .ok (.iload_n 2, 1) := by decide +kernel
theorem dX2_handOn_17 : decode cX2_handOn 17 = .ok (.aaload, 1) := by decide +kernel
theorem dX2_handOn_18 : decode cX2_handOn 18 = .ok (.getfield 54, 3) := by decide +kernel
theorem dX2_handOn_21 : decode cX2_handOn 21 = .ok (.ifCond .le 38, 3) := by decide +kernel
theorem dX2_handOn_24 : decode cX2_handOn 24 = .ok (.aload_n 0, 1) := by decide +kernel
theorem dX2_handOn_25 : decode cX2_handOn 25 = .ok (.getfield 11, 3) := by decide +kernel
theorem dX2_handOn_28 : decode cX2_handOn 28 = .ok (.iload_n 2, 1) := by decide +kernel
theorem dX2_handOn_29 : decode cX2_handOn 29 = .ok (.aaload, 1) := by decide +kernel
theorem dX2_handOn_30 : decode cX2_handOn 30 = .ok (.dup, 1) := by decide +kernel
theorem dX2_handOn_31 : decode cX2_handOn 31 = .ok (.getfield 54, 3) := by decide +kernel
theorem dX2_handOn_34 : decode cX2_handOn 34 = .ok (.iconst 1, 1) := by decide +kernel
theorem dX2_handOn_35 : decode cX2_handOn 35 = .ok (.isub, 1) := by decide +kernel
theorem dX2_handOn_36 : decode cX2_handOn 36 = .ok (.putfield 54, 3) := by decide +kernel
theorem dX2_handOn_39 : decode cX2_handOn 39 = .ok (.iload_n 1, 1) := by decide +kernel
theorem dX2_handOn_40 : decode cX2_handOn 40 = .ok (.aload_n 0, 1) := by decide +kernel
theorem dX2_handOn_41 : decode cX2_handOn 41 = .ok (.getfield 11, 3) := by decide +kernel
theorem dX2_handOn_44 : decode cX2_handOn 44 = .ok (.iload_n 2, 1) := by decide +kernel
theorem dX2_handOn_45 : decode cX2_handOn 45 = .ok (.aaload, 1) := by decide +kernel
theorem dX2_handOn_46 : decode cX2_handOn 46 = .ok (.getfield 54, 3) := by decide +kernel
theorem dX2_handOn_49 : decode cX2_handOn 49 = .ok (.ifCond .ne 7, 3) := by decide +kernel
theorem dX2_handOn_52 : decode cX2_handOn 52 = .ok (.iconst 1, 1) := by decide +kernel
theorem dX2_handOn_53 : decode cX2_handOn 53 = .ok (.goto 4, 3) := by decide +kernel
theorem dX2_handOn_56 : decode cX2_handOn 56 = .ok (.iconst 0, 1) := by decide +kernel
theorem dX2_handOn_57 : decode cX2_handOn 57 = .ok (.ior, 1) := by decide +kernel
theorem dX2_handOn_58 : decode cX2_handOn 58 = .ok (.istore_n 1, 1) := by decide +kernel
theorem dX2_handOn_59 : decode cX2_handOn 59 = .ok (.iinc 2 1, 3) := by decide +kernel
theorem dX2_handOn_62 : decode cX2_handOn 62 = .ok (.goto (-58), 3) := by decide +kernel
theorem dX2_handOn_65 : decode cX2_handOn 65 = .ok (.iload_n 1, 1) := by decide +kernel
theorem dX2_handOn_66 : decode cX2_handOn 66 = .ok (.ireturn, 1) := by decide +kernel
theorem dX3_init_0 : decode cX3_init 0 = .ok (.aload_n 0, 1) := by decide +kernel
theorem dX3_init_1 : decode cX3_init 1 = .ok (.invokespecial 3, 3) := by decide +kernel
theorem dX3_init_4 : decode cX3_init 4 = .ok (.aload_n 0, 1) := by decide +kernel
theorem dX3_init_5 : decode cX3_init 5 = .ok (.sipush 1024, 3) := by decide +kernel
theorem dX3_init_8 : decode cX3_init 8 = .ok (.newarray .boolean, 2) := by decide +kernel
theorem dX3_init_10 : decode cX3_init 10 = .ok (.putfield 9, 3) := by decide +kernel
theorem dX3_init_13 : decode cX3_init 13 = .ok (.aload_n 0, 1) := by decide +kernel
theorem dX3_init_14 : decode cX3_init 14 = .ok (.sipush 386, 3) := by decide +kernel
theorem dX3_init_17 : decode cX3_init 17 = .ok (.newarray .int, 2) := by decide +kernel
theorem dX3_init_19 : decode cX3_init 19 = .ok (.putfield 15, 3) := by decide +kernel
theorem dX3_init_22 : decode cX3_init 22 = .ok (.aload_n 0, 1) := by decide +kernel
theorem dX3_init_23 : decode cX3_init 23 = .ok (.sipush 1024, 3) := by decide +kernel
theorem dX3_init_26 : decode cX3_init 26 = .ok (.newarray .int, 2) := by decide +kernel
theorem dX3_init_28 : decode cX3_init 28 = .ok (.putfield 19, 3) := by decide +kernel
theorem dX3_init_31 : decode cX3_init 31 = .ok (.return_, 1) := by decide +kernel
theorem dX3_find_0 : decode cX3_find 0 = .ok (.aload_n 0, 1) := by decide +kernel
theorem dX3_find_1 : decode cX3_find 1 = .ok (.iconst 0, 1) := by decide +kernel
theorem dX3_find_2 : decode cX3_find 2 = .ok (.putfield 22, 3) := by decide +kernel
theorem dX3_find_5 : decode cX3_find 5 = .ok (.aload_n 1, 1) := by decide +kernel
theorem dX3_find_6 : decode cX3_find 6 = .ok (.invokevirtual 26, 3) := by decide +kernel
theorem dX3_find_9 : decode cX3_find 9 = .ok (.sipush 1023, 3) := by decide +kernel
theorem dX3_find_12 : decode cX3_find 12 = .ok (.invokestatic 32, 3) := by decide +kernel
theorem dX3_find_15 : decode cX3_find 15 = .ok (.istore_n 2, 1) := by decide +kernel
theorem dX3_find_16 : decode cX3_find 16 = .ok (.iconst 0, 1) := by decide +kernel
theorem dX3_find_17 : decode cX3_find 17 = .ok (.istore_n 3, 1) := by decide +kernel
theorem dX3_find_18 : decode cX3_find 18 = .ok (.iload_n 3, 1) := by decide +kernel
theorem dX3_find_19 : decode cX3_find 19 = .ok (.iload_n 2, 1) := by decide +kernel
theorem dX3_find_20 : decode cX3_find 20 = .ok (.if_icmp .gt 59, 3) := by decide +kernel
theorem dX3_find_23 : decode cX3_find 23 = .ok (.aload_n 0, 1) := by decide +kernel
theorem dX3_find_24 : decode cX3_find 24 = .ok (.getfield 9, 3) := by decide +kernel
theorem dX3_find_27 : decode cX3_find 27 = .ok (.iload_n 3, 1) := by decide +kernel
theorem dX3_find_28 : decode cX3_find 28 = .ok (.aload_n 1, 1) := by decide +kernel
theorem dX3_find_29 : decode cX3_find 29 = .ok (.iload_n 3, 1) := by decide +kernel
theorem dX3_find_30 : decode cX3_find 30 = .ok (.invokevirtual 38, 3) := by decide +kernel
theorem dX3_find_33 : decode cX3_find 33 = .ok (.bastore, 1) := by decide +kernel
theorem dX3_find_34 : decode cX3_find 34 = .ok (.aload_n 0, 1) := by decide +kernel
theorem dX3_find_35 : decode cX3_find 35 = .ok (.getfield 9, 3) := by decide +kernel
theorem dX3_find_38 : decode cX3_find 38 = .ok (.iload_n 3, 1) := by decide +kernel
theorem dX3_find_39 : decode cX3_find 39 = .ok (.baload, 1) := by decide +kernel
theorem dX3_find_40 : decode cX3_find 40 = .ok (.ifCond .eq 33, 3) := by decide +kernel
theorem dX3_find_43 : decode cX3_find 43 = .ok (.aload_n 0, 1) := by decide +kernel
theorem dX3_find_44 : decode cX3_find 44 = .ok (.getfield 22, 3) := by decide +kernel
theorem dX3_find_47 : decode cX3_find 47 = .ok (.sipush 386, 3) := by decide +kernel
theorem dX3_find_50 : decode cX3_find 50 = .ok (.if_icmp .ge 23, 3) := by decide +kernel
theorem dX3_find_53 : decode cX3_find 53 = .ok (.aload_n 0, 1) := by decide +kernel
theorem dX3_find_54 : decode cX3_find 54 = .ok (.getfield 15, 3) := by decide +kernel
theorem dX3_find_57 : decode cX3_find 57 = .ok (.aload_n 0, 1) := by decide +kernel
theorem dX3_find_58 : decode cX3_find 58 = .ok (.getfield 22, 3) := by decide +kernel
theorem dX3_find_61 : decode cX3_find 61 = .ok (.iload_n 3, 1) := by decide +kernel
theorem dX3_find_62 : decode cX3_find 62 = .ok (.iastore, 1) := by decide +kernel
theorem dX3_find_63 : decode cX3_find 63 = .ok (.aload_n 0, 1) := by decide +kernel
theorem dX3_find_64 : decode cX3_find 64 = .ok (.dup, 1) := by decide +kernel
theorem dX3_find_65 : decode cX3_find 65 = .ok (.getfield 22, 3) := by decide +kernel
theorem dX3_find_68 : decode cX3_find 68 = .ok (.iconst 1, 1) := by decide +kernel
theorem dX3_find_69 : decode cX3_find 69 = .ok (.iadd, 1) := by decide +kernel
theorem dX3_find_70 : decode cX3_find 70 = .ok (.putfield 22, 3) := by decide +kernel
theorem dX3_find_73 : decode cX3_find 73 = .ok (.iinc 3 1, 3) := by decide +kernel
theorem dX3_find_76 : decode cX3_find 76 = .ok (.goto (-58), 3) := by decide +kernel
theorem dX3_find_79 : decode cX3_find 79 = .ok (.return_, 1) := by decide +kernel
theorem dX3_has_0 : decode cX3_has 0 = .ok (.iload_n 1, 1) := by decide +kernel
theorem dX3_has_1 : decode cX3_has 1 = .ok (.ifCond .lt 23, 3) := by decide +kernel
theorem dX3_has_4 : decode cX3_has 4 = .ok (.iload_n 1, 1) := by decide +kernel
theorem dX3_has_5 : decode cX3_has 5 = .ok (.sipush 1024, 3) := by decide +kernel
theorem dX3_has_8 : decode cX3_has 8 = .ok (.if_icmp .ge 16, 3) := by decide +kernel
theorem dX3_has_11 : decode cX3_has 11 = .ok (.aload_n 0, 1) := by decide +kernel
theorem dX3_has_12 : decode cX3_has 12 = .ok (.getfield 9, 3) := by decide +kernel
theorem dX3_has_15 : decode cX3_has 15 = .ok (.iload_n 1, 1) := by decide +kernel
theorem dX3_has_16 : decode cX3_has 16 = .ok (.baload, 1) := by decide +kernel
theorem dX3_has_17 : decode cX3_has 17 = .ok (.ifCond .eq 7, 3) := by decide +kernel
theorem dX3_has_20 : decode cX3_has 20 = .ok (.iconst 1, 1) := by decide +kernel
theorem dX3_has_21 : decode cX3_has 21 = .ok (.goto 4, 3) := by decide +kernel
theorem dX3_has_24 : decode cX3_has 24 = .ok (.iconst 0, 1) := by decide +kernel
theorem dX3_has_25 : decode cX3_has 25 = .ok (.ireturn, 1) := by decide +kernel
theorem dX3_worthiest_0 : decode cX3_worthiest 0 = .ok (.iconst 0, 1) := by decide +kernel
theorem dX3_worthiest_1 : decode cX3_worthiest 1 = .ok (.istore_n 2, 1) := by decide +kernel
theorem dX3_worthiest_2 : decode cX3_worthiest 2 = .ok (.iconst 0, 1) := by decide +kernel
theorem dX3_worthiest_3 : decode cX3_worthiest 3 = .ok (.istore_n 3, 1) := by decide +kernel
theorem dX3_worthiest_4 : decode cX3_worthiest 4 = .ok (.iconst 1, 1) := by decide +kernel
theorem dX3_worthiest_5 : decode cX3_worthiest 5 = .ok (.istore 4, 2) := by decide +kernel
theorem dX3_worthiest_7 : decode cX3_worthiest 7 = .ok (.iload 4, 2) := by decide +kernel
theorem dX3_worthiest_9 : decode cX3_worthiest 9 = .ok (.aload_n 0, 1) := by decide +kernel
theorem dX3_worthiest_10 : decode cX3_worthiest 10 = .ok (.getfield 22, 3) := by decide +kernel
theorem dX3_worthiest_13 : decode cX3_worthiest 13 = .ok (.if_icmp .ge 82, 3) := by decide +kernel
theorem dX3_worthiest_16 : decode cX3_worthiest 16 = .ok (.aload_n 0, 1) := by decide +kernel
theorem dX3_worthiest_17 : decode cX3_worthiest 17 = .ok (.getfield 15, 3) := by decide +kernel
theorem dX3_worthiest_20 : decode cX3_worthiest 20 = .ok (.iload 4, 2) := by decide +kernel
theorem dX3_worthiest_22 : decode cX3_worthiest 22 = .ok (.iaload, 1) := by decide +kernel
theorem dX3_worthiest_23 : decode cX3_worthiest 23 = .ok (.istore 5, 2) := by decide +kernel
theorem dX3_worthiest_25 : decode cX3_worthiest 25 = .ok (.iload_n 3, 1) := by decide +kernel
theorem dX3_worthiest_26 : decode cX3_worthiest 26 = .ok (.bipush 9, 2) := by decide +kernel
theorem dX3_worthiest_28 : decode cX3_worthiest 28 = .ok (.if_icmp .ge 18, 3) := by decide +kernel
theorem dX3_worthiest_31 : decode cX3_worthiest 31 = .ok (.iload 5, 2) := by decide +kernel
theorem dX3_worthiest_33 : decode cX3_worthiest 33 = .ok (.iload_n 3, 1) := by decide +kernel
theorem dX3_worthiest_34 : decode cX3_worthiest 34 = .ok (.iconst 1, 1) := by decide +kernel
theorem dX3_worthiest_35 : decode cX3_worthiest 35 = .ok (.iadd, 1) := by decide +kernel
theorem dX3_worthiest_36 : decode cX3_worthiest 36 = .ok (.ishr, 1) := by decide +kernel
theorem dX3_worthiest_37 : decode cX3_worthiest 37 = .ok (.ifCond .eq 9, 3) := by decide +kernel
theorem dX3_worthiest_40 : decode cX3_worthiest 40 = .ok (.iinc 3 1, 3) := by decide +kernel
theorem dX3_worthiest_43 : decode cX3_worthiest 43 = .ok (.goto (-18), 3) := by decide +kernel
theorem dX3_worthiest_46 : decode cX3_worthiest 46 = .ok (.aload_n 0, 1) := by decide +kernel
theorem dX3_worthiest_47 : decode cX3_worthiest 47 = .ok (.getfield 19, 3) := by decide +kernel
theorem dX3_worthiest_50 : decode cX3_worthiest 50 = .ok (.iload 5, 2) := by decide +kernel
theorem dX3_worthiest_52 : decode cX3_worthiest 52 = .ok (.aload_n 0, 1) := by decide +kernel
theorem dX3_worthiest_53 : decode cX3_worthiest 53 = .ok (.getfield 19, 3) := by decide +kernel
theorem dX3_worthiest_56 : decode cX3_worthiest 56 = .ok (.iload 5, 2) := by decide +kernel
theorem dX3_worthiest_58 : decode cX3_worthiest 58 = .ok (.iconst 1, 1) := by decide +kernel
theorem dX3_worthiest_59 : decode cX3_worthiest 59 = .ok (.iload_n 3, 1) := by decide +kernel
theorem dX3_worthiest_60 : decode cX3_worthiest 60 = .ok (.ishl, 1) := by decide +kernel
theorem dX3_worthiest_61 : decode cX3_worthiest 61 = .ok (.iconst (-1), 1) := by decide +kernel
theorem dX3_worthiest_62 : decode cX3_worthiest 62 = .ok (.ixor, 1) := by decide +kernel
theorem dX3_worthiest_63 : decode cX3_worthiest 63 = .ok (.iand, 1) := by decide +kernel
theorem dX3_worthiest_64 : decode cX3_worthiest 64 = .ok (.iaload, 1) := by decide +kernel
theorem dX3_worthiest_65 : decode cX3_worthiest 65 = .ok (.aload_n 1, 1) := by decide +kernel
theorem dX3_worthiest_66 : decode cX3_worthiest 66 = .ok (.iload_n 3, 1) := by decide +kernel
theorem dX3_worthiest_67 : decode cX3_worthiest 67 = .ok (.iaload, 1) := by decide +kernel
theorem dX3_worthiest_68 : decode cX3_worthiest 68 = .ok (.iadd, 1) := by decide +kernel
theorem dX3_worthiest_69 : decode cX3_worthiest 69 = .ok (.iastore, 1) := by decide +kernel
theorem dX3_worthiest_70 : decode cX3_worthiest 70 = .ok (.aload_n 0, 1) := by decide +kernel
theorem dX3_worthiest_71 : decode cX3_worthiest 71 = .ok (.getfield 19, 3) := by decide +kernel
theorem dX3_worthiest_74 : decode cX3_worthiest 74 = .ok (.iload 5, 2) := by decide +kernel
theorem dX3_worthiest_76 : decode cX3_worthiest 76 = .ok (.iaload, 1) := by decide +kernel
theorem dX3_worthiest_77 : decode cX3_worthiest 77 = .ok (.aload_n 0, 1) := by decide +kernel
theorem dX3_worthiest_78 : decode cX3_worthiest 78 = .ok (.getfield 19, 3) := by decide +kernel
theorem dX3_worthiest_81 : decode cX3_worthiest 81 = .ok (.iload_n 2, 1) := by decide +kernel
theorem dX3_worthiest_82 : decode cX3_worthiest 82 = .ok (.iaload, 1) := by decide +kernel
theorem dX3_worthiest_83 : decode cX3_worthiest 83 = .ok (.if_icmp .le 6, 3) := by decide +kernel
theorem dX3_worthiest_86 : decode cX3_worthiest 86 = .ok (.iload 5, 2) := by decide +kernel
theorem dX3_worthiest_88 : decode cX3_worthiest 88 = .ok (.istore_n 2, 1) := by decide +kernel
theorem dX3_worthiest_89 : decode cX3_worthiest 89 = .ok (.iinc 4 1, 3) := by decide +kernel
theorem dX3_worthiest_92 : decode cX3_worthiest 92 = .ok (.goto (-85), 3) := by decide +kernel
theorem dX3_worthiest_95 : decode cX3_worthiest 95 = .ok (.iload_n 2, 1) := by decide +kernel
theorem dX3_worthiest_96 : decode cX3_worthiest 96 = .ok (.ireturn, 1) := by decide +kernel
theorem dX3_roomBeside_0 : decode cX3_roomBeside 0 = .ok (.iconst 0, 1) := by decide +kernel
theorem dX3_roomBeside_1 : decode cX3_roomBeside 1 = .ok (.istore_n 2, 1) := by decide +kernel
theorem dX3_roomBeside_2 : decode cX3_roomBeside 2 = .ok (.iconst 0, 1) := by decide +kernel
theorem dX3_roomBeside_3 : decode cX3_roomBeside 3 = .ok (.istore_n 3, 1) := by decide +kernel
theorem dX3_roomBeside_4 : decode cX3_roomBeside 4 = .ok (.iload_n 3, 1) := by decide +kernel
theorem dX3_roomBeside_5 : decode cX3_roomBeside 5 = .ok (.bipush 10, 2) := by decide +kernel
theorem dX3_roomBeside_7 : decode cX3_roomBeside 7 = .ok (.if_icmp .ge 35, 3) := by decide +kernel
theorem dX3_roomBeside_10 : decode cX3_roomBeside 10 = .ok (.iload_n 1, 1) := by decide +kernel
theorem dX3_roomBeside_11 : decode cX3_roomBeside 11 = .ok (.iload_n 3, 1) := by decide +kernel
theorem dX3_roomBeside_12 : decode cX3_roomBeside 12 = .ok (.invokestatic 42, 3) := by decide +kernel
theorem dX3_roomBeside_15 : decode cX3_roomBeside 15 = .ok (.ifCond .ne 21, 3) := by decide +kernel
theorem dX3_roomBeside_18 : decode cX3_roomBeside 18 = .ok (.aload_n 0, 1) := by decide +kernel
theorem dX3_roomBeside_19 : decode cX3_roomBeside 19 = .ok (.iload_n 1, 1) := by decide +kernel
theorem dX3_roomBeside_20 : decode cX3_roomBeside 20 = .ok (.iconst 1, 1) := by decide +kernel
theorem dX3_roomBeside_21 : decode cX3_roomBeside 21 = .ok (.iload_n 3, 1) := by decide +kernel
theorem dX3_roomBeside_22 : decode cX3_roomBeside 22 = .ok (.ishl, 1) := by decide +kernel
theorem dX3_roomBeside_23 : decode cX3_roomBeside 23 = .ok (.ior, 1) := by decide +kernel
theorem dX3_roomBeside_24 : decode cX3_roomBeside 24 = .ok (.invokevirtual 46, 3) := by decide +kernel
theorem dX3_roomBeside_27 : decode cX3_roomBeside 27 = .ok (.ifCond .eq 9, 3) := by decide +kernel
theorem dX3_roomBeside_30 : decode cX3_roomBeside 30 = .ok (.iload_n 2, 1) := by decide +kernel
theorem dX3_roomBeside_31 : decode cX3_roomBeside 31 = .ok (.iconst 1, 1) := by decide +kernel
theorem dX3_roomBeside_32 : decode cX3_roomBeside 32 = .ok (.iload_n 3, 1) := by decide +kernel
theorem dX3_roomBeside_33 : decode cX3_roomBeside 33 = .ok (.ishl, 1) := by decide +kernel
theorem dX3_roomBeside_34 : decode cX3_roomBeside 34 = .ok (.ior, 1) := by decide +kernel
theorem dX3_roomBeside_35 : decode cX3_roomBeside 35 = .ok (.istore_n 2, 1) := by decide +kernel
theorem dX3_roomBeside_36 : decode cX3_roomBeside 36 = .ok (.iinc 3 1, 3) := by decide +kernel
theorem dX3_roomBeside_39 : decode cX3_roomBeside 39 = .ok (.goto (-35), 3) := by decide +kernel
theorem dX3_roomBeside_42 : decode cX3_roomBeside 42 = .ok (.iload_n 2, 1) := by decide +kernel
theorem dX3_roomBeside_43 : decode cX3_roomBeside 43 = .ok (.ireturn, 1) := by decide +kernel
theorem dX4_init_0 : decode cX4_init 0 = .ok (.aload_n 0, 1) := by decide +kernel
theorem dX4_init_1 : decode cX4_init 1 = .ok (.invokespecial 3, 3) := by decide +kernel
theorem dX4_init_4 : decode cX4_init 4 = .ok (.aload_n 0, 1) := by decide +kernel
theorem dX4_init_5 : decode cX4_init 5 = .ok (.sipush 5000, 3) := by decide +kernel
theorem dX4_init_8 : decode cX4_init 8 = .ok (.newarray .long, 2) := by decide +kernel
theorem dX4_init_10 : decode cX4_init 10 = .ok (.putfield 9, 3) := by decide +kernel
theorem dX4_init_13 : decode cX4_init 13 = .ok (.aload_n 0, 1) := by decide +kernel
theorem dX4_init_14 : decode cX4_init 14 = .ok (.sipush 5000, 3) := by decide +kernel
theorem dX4_init_17 : decode cX4_init 17 = .ok (.newarray .int, 2) := by decide +kernel
theorem dX4_init_19 : decode cX4_init 19 = .ok (.putfield 15, 3) := by decide +kernel
theorem dX4_init_22 : decode cX4_init 22 = .ok (.aload_n 0, 1) := by decide +kernel
theorem dX4_init_23 : decode cX4_init 23 = .ok (.sipush 8192, 3) := by decide +kernel
theorem dX4_init_26 : decode cX4_init 26 = .ok (.newarray .int, 2) := by decide +kernel
theorem dX4_init_28 : decode cX4_init 28 = .ok (.putfield 19, 3) := by decide +kernel
theorem dX4_init_31 : decode cX4_init 31 = .ok (.aload_n 0, 1) := by decide +kernel
theorem dX4_init_32 : decode cX4_init 32 = .ok (.sipush 386, 3) := by decide +kernel
theorem dX4_init_35 : decode cX4_init 35 = .ok (.newarray .int, 2) := by decide +kernel
theorem dX4_init_37 : decode cX4_init 37 = .ok (.putfield 22, 3) := by decide +kernel
theorem dX4_init_40 : decode cX4_init 40 = .ok (.aload_n 0, 1) := by decide +kernel
theorem dX4_init_41 : decode cX4_init 41 = .ok (.sipush 386, 3) := by decide +kernel
theorem dX4_init_44 : decode cX4_init 44 = .ok (.newarray .long, 2) := by decide +kernel
theorem dX4_init_46 : decode cX4_init 46 = .ok (.putfield 25, 3) := by decide +kernel
theorem dX4_init_49 : decode cX4_init 49 = .ok (.aload_n 0, 1) := by decide +kernel
theorem dX4_init_50 : decode cX4_init 50 = .ok (.sipush 386, 3) := by decide +kernel
theorem dX4_init_53 : decode cX4_init 53 = .ok (.newarray .int, 2) := by decide +kernel
theorem dX4_init_55 : decode cX4_init 55 = .ok (.putfield 28, 3) := by decide +kernel
theorem dX4_init_58 : decode cX4_init 58 = .ok (.return_, 1) := by decide +kernel
theorem dX4_reachesEnd_0 : decode cX4_reachesEnd 0 = .ok (.aload_n 0, 1) := by decide +kernel
theorem dX4_reachesEnd_1 : decode cX4_reachesEnd 1 = .ok (.aload_n 1, 1) := by decide +kernel
theorem dX4_reachesEnd_2 : decode cX4_reachesEnd 2 = .ok (.invokevirtual 31, 3) := by decide +kernel
theorem dX4_reachesEnd_5 : decode cX4_reachesEnd 5 = .ok (.aload_n 0, 1) := by decide +kernel
theorem dX4_reachesEnd_6 : decode cX4_reachesEnd 6 = .ok (.lload_n 2, 1) := by decide +kernel
theorem dX4_reachesEnd_7 : decode cX4_reachesEnd 7 = .ok (.iconst 0, 1) := by decide +kernel
theorem dX4_reachesEnd_8 : decode cX4_reachesEnd 8 = .ok (.aload_n 0, 1) := by decide +kernel
theorem dX4_reachesEnd_9 : decode cX4_reachesEnd 9 = .ok (.lload_n 2, 1) := by decide +kernel
theorem dX4_reachesEnd_10 : decode cX4_reachesEnd 10 = .ok (.invokevirtual 35, 3) := by decide +kernel
theorem dX4_reachesEnd_13 : decode cX4_reachesEnd 13 = .ok (.invokevirtual 39, 3) := by decide +kernel
theorem dX4_reachesEnd_16 : decode cX4_reachesEnd 16 = .ok (.iconst 0, 1) := by decide +kernel
theorem dX4_reachesEnd_17 : decode cX4_reachesEnd 17 = .ok (.istore 4, 2) := by decide +kernel
theorem dX4_reachesEnd_19 : decode cX4_reachesEnd 19 = .ok (.iload 4, 2) := by decide +kernel
theorem dX4_reachesEnd_21 : decode cX4_reachesEnd 21 = .ok (.aload_n 0, 1) := by decide +kernel
theorem dX4_reachesEnd_22 : decode cX4_reachesEnd 22 = .ok (.getfield 43, 3) := by decide +kernel
theorem dX4_reachesEnd_25 : decode cX4_reachesEnd 25 = .ok (.if_icmp .ge 139, 3) := by decide +kernel
theorem dX4_reachesEnd_28 : decode cX4_reachesEnd 28 = .ok (.aload_n 0, 1) := by decide +kernel
theorem dX4_reachesEnd_29 : decode cX4_reachesEnd 29 = .ok (.aload_n 1, 1) := by decide +kernel
theorem dX4_reachesEnd_30 : decode cX4_reachesEnd 30 = .ok (.aload_n 0, 1) := by decide +kernel
theorem dX4_reachesEnd_31 : decode cX4_reachesEnd 31 = .ok (.getfield 9, 3) := by decide +kernel
theorem dX4_reachesEnd_34 : decode cX4_reachesEnd 34 = .ok (.iload 4, 2) := by decide +kernel
theorem dX4_reachesEnd_36 : decode cX4_reachesEnd 36 = .ok (.laload, 1) := by decide +kernel
theorem dX4_reachesEnd_37 : decode cX4_reachesEnd 37 = .ok (.invokestatic 47, 3) := by decide +kernel
theorem dX4_reachesEnd_40 : decode cX4_reachesEnd 40 = .ok (.invokevirtual 50, 3) := by decide +kernel
theorem dX4_reachesEnd_43 : decode cX4_reachesEnd 43 = .ok (.iconst 0, 1) := by decide +kernel
theorem dX4_reachesEnd_44 : decode cX4_reachesEnd 44 = .ok (.istore 5, 2) := by decide +kernel
theorem dX4_reachesEnd_46 : decode cX4_reachesEnd 46 = .ok (.iload 5, 2) := by decide +kernel
theorem dX4_reachesEnd_48 : decode cX4_reachesEnd 48 = .ok (.aload_n 0, 1) := by decide +kernel
theorem dX4_reachesEnd_49 : decode cX4_reachesEnd 49 = .ok (.getfield 54, 3) := by decide +kernel
theorem dX4_reachesEnd_52 : decode cX4_reachesEnd 52 = .ok (.if_icmp .ge 106, 3) := by decide +kernel
theorem dX4_reachesEnd_55 : decode cX4_reachesEnd 55 = .ok (.aload_n 0, 1) := by decide +kernel
theorem dX4_reachesEnd_56 : decode cX4_reachesEnd 56 = .ok (.getfield 28, 3) := by decide +kernel
theorem dX4_reachesEnd_59 : decode cX4_reachesEnd 59 = .ok (.iload 5, 2) := by decide +kernel
theorem dX4_reachesEnd_61 : decode cX4_reachesEnd 61 = .ok (.iaload, 1) := by decide +kernel
theorem dX4_reachesEnd_62 : decode cX4_reachesEnd 62 = .ok (.istore 6, 2) := by decide +kernel
theorem dX4_reachesEnd_64 : decode cX4_reachesEnd 64 = .ok (.aload_n 0, 1) := by decide +kernel
theorem dX4_reachesEnd_65 : decode cX4_reachesEnd 65 = .ok (.getfield 9, 3) := by decide +kernel
theorem dX4_reachesEnd_68 : decode cX4_reachesEnd 68 = .ok (.iload 4, 2) := by decide +kernel
theorem dX4_reachesEnd_70 : decode cX4_reachesEnd 70 = .ok (.laload, 1) := by decide +kernel
theorem dX4_reachesEnd_71 : decode cX4_reachesEnd 71 = .ok (.aload_n 0, 1) := by decide +kernel
theorem dX4_reachesEnd_72 : decode cX4_reachesEnd 72 = .ok (.getfield 25, 3) := by decide +kernel
theorem dX4_reachesEnd_75 : decode cX4_reachesEnd 75 = .ok (.iload 6, 2) := by decide +kernel
theorem dX4_reachesEnd_77 : decode cX4_reachesEnd 77 = .ok (.laload, 1) := by decide +kernel
theorem dX4_reachesEnd_78 : decode cX4_reachesEnd 78 = .ok (.lsub, 1) := by decide +kernel
theorem dX4_reachesEnd_79 : decode cX4_reachesEnd 79 = .ok (.lstore 7, 2) := by decide +kernel
theorem dX4_reachesEnd_81 : decode cX4_reachesEnd 81 = .ok (.iload 4, 2) := by decide +kernel
theorem dX4_reachesEnd_83 : decode cX4_reachesEnd 83 = .ok (.sipush 1024, 3) := by decide +kernel
theorem dX4_reachesEnd_86 : decode cX4_reachesEnd 86 = .ok (.imul, 1) := by decide +kernel
theorem dX4_reachesEnd_87 : decode cX4_reachesEnd 87 = .ok (.aload_n 1, 1) := by decide +kernel
theorem dX4_reachesEnd_88 : decode cX4_reachesEnd 88 = .ok (.getfield 57, 3) := by decide +kernel
theorem dX4_reachesEnd_91 : decode cX4_reachesEnd 91 = .ok (.iload 6, 2) := by decide +kernel
theorem dX4_reachesEnd_93 : decode cX4_reachesEnd 93 = .ok (.iaload, 1) := by decide +kernel
theorem dX4_reachesEnd_94 : decode cX4_reachesEnd 94 = .ok (.iadd, 1) := by decide +kernel
theorem dX4_reachesEnd_95 : decode cX4_reachesEnd 95 = .ok (.istore 9, 2) := by decide +kernel
theorem dX4_reachesEnd_97 : decode cX4_reachesEnd 97 = .ok (.lload 7, 2) := by decide +kernel
theorem dX4_reachesEnd_99 : decode cX4_reachesEnd 99 = .ok (.lconst 0, 1) := by decide +kernel
theorem dX4_reachesEnd_100 : decode cX4_reachesEnd 100 = .ok (.lcmp, 1) := by decide +kernel
theorem dX4_reachesEnd_101 : decode cX4_reachesEnd 101 = .ok (.ifCond .ne 11, 3) := by decide +kernel
theorem dX4_reachesEnd_104 : decode cX4_reachesEnd 104 = .ok (.aload_n 0, 1) := by decide +kernel
theorem dX4_reachesEnd_105 : decode cX4_reachesEnd 105 = .ok (.iload 9, 2) := by decide +kernel
theorem dX4_reachesEnd_107 : decode cX4_reachesEnd 107 = .ok (.putfield 62, 3) := by decide +kernel
theorem dX4_reachesEnd_110 : decode cX4_reachesEnd 110 = .ok (.iconst 1, 1) := by decide +kernel
theorem dX4_reachesEnd_111 : decode cX4_reachesEnd 111 = .ok (.ireturn, 1) := by decide +kernel
theorem dX4_reachesEnd_112 : decode cX4_reachesEnd 112 = .ok (.aload_n 0, 1) := by decide +kernel
theorem dX4_reachesEnd_113 : decode cX4_reachesEnd 113 = .ok (.lload 7, 2) := by decide +kernel
theorem dX4_reachesEnd_115 : decode cX4_reachesEnd 115 = .ok (.invokevirtual 35, 3) := by decide +kernel
theorem dX4_reachesEnd_118 : decode cX4_reachesEnd 118 = .ok (.istore 10, 2) := by decide +kernel
theorem dX4_reachesEnd_120 : decode cX4_reachesEnd 120 = .ok (.aload_n 0, 1) := by decide +kernel
theorem dX4_reachesEnd_121 : decode cX4_reachesEnd 121 = .ok (.getfield 19, 3) := by decide +kernel
theorem dX4_reachesEnd_124 : decode cX4_reachesEnd 124 = .ok (.iload 10, 2) := by decide +kernel
theorem dX4_reachesEnd_126 : decode cX4_reachesEnd 126 = .ok (.iaload, 1) := by decide +kernel
theorem dX4_reachesEnd_127 : decode cX4_reachesEnd 127 = .ok (.ifCond .ne 25, 3) := by decide +kernel
theorem dX4_reachesEnd_130 : decode cX4_reachesEnd 130 = .ok (.aload_n 0, 1) := by decide +kernel
theorem dX4_reachesEnd_131 : decode cX4_reachesEnd 131 = .ok (.getfield 43, 3) := by decide +kernel
theorem dX4_reachesEnd_134 : decode cX4_reachesEnd 134 = .ok (.sipush 5000, 3) := by decide +kernel
theorem dX4_reachesEnd_137 : decode cX4_reachesEnd 137 = .ok (.if_icmp .lt 5, 3) := by decide +kernel
theorem dX4_reachesEnd_140 : decode cX4_reachesEnd 140 = .ok (.iconst 0, 1) := by decide +kernel
theorem dX4_reachesEnd_141 : decode cX4_reachesEnd 141 = .ok (.ireturn, 1) := by decide +kernel
theorem dX4_reachesEnd_142 : decode cX4_reachesEnd 142 = .ok (.aload_n 0, 1) := by decide +kernel
theorem dX4_reachesEnd_143 : decode cX4_reachesEnd 143 = .ok (.lload 7, 2) := by decide +kernel
theorem dX4_reachesEnd_145 : decode cX4_reachesEnd 145 = .ok (.iload 9, 2) := by decide +kernel
theorem dX4_reachesEnd_147 : decode cX4_reachesEnd 147 = .ok (.iload 10, 2) := by decide +kernel
theorem dX4_reachesEnd_149 : decode cX4_reachesEnd 149 = .ok (.invokevirtual 39, 3) := by decide +kernel
theorem dX4_reachesEnd_152 : decode cX4_reachesEnd 152 = .ok (.iinc 5 1, 3) := by decide +kernel
theorem dX4_reachesEnd_155 : decode cX4_reachesEnd 155 = .ok (.goto (-109), 3) := by decide +kernel
theorem dX4_reachesEnd_158 : decode cX4_reachesEnd 158 = .ok (.iinc 4 1, 3) := by decide +kernel
theorem dX4_reachesEnd_161 : decode cX4_reachesEnd 161 = .ok (.goto (-142), 3) := by decide +kernel
theorem dX4_reachesEnd_164 : decode cX4_reachesEnd 164 = .ok (.iconst 0, 1) := by decide +kernel
theorem dX4_reachesEnd_165 : decode cX4_reachesEnd 165 = .ok (.ireturn, 1) := by decide +kernel
theorem dX4_prepare_0 : decode cX4_prepare 0 = .ok (.aload_n 0, 1) := by decide +kernel
theorem dX4_prepare_1 : decode cX4_prepare 1 = .ok (.getfield 19, 3) := by decide +kernel
theorem dX4_prepare_4 : decode cX4_prepare 4 = .ok (.iconst 0, 1) := by decide +kernel
theorem dX4_prepare_5 : decode cX4_prepare 5 = .ok (.invokestatic 65, 3) := by decide +kernel
theorem dX4_prepare_8 : decode cX4_prepare 8 = .ok (.aload_n 0, 1) := by decide +kernel
theorem dX4_prepare_9 : decode cX4_prepare 9 = .ok (.iconst 0, 1) := by decide +kernel
theorem dX4_prepare_10 : decode cX4_prepare 10 = .ok (.putfield 43, 3) := by decide +kernel
theorem dX4_prepare_13 : decode cX4_prepare 13 = .ok (.aload_n 0, 1) := by decide +kernel
theorem dX4_prepare_14 : decode cX4_prepare 14 = .ok (.iconst 0, 1) := by decide +kernel
theorem dX4_prepare_15 : decode cX4_prepare 15 = .ok (.putfield 71, 3) := by decide +kernel
theorem dX4_prepare_18 : decode cX4_prepare 18 = .ok (.aload_n 0, 1) := by decide +kernel
theorem dX4_prepare_19 : decode cX4_prepare 19 = .ok (.iconst 0, 1) := by decide +kernel
theorem dX4_prepare_20 : decode cX4_prepare 20 = .ok (.putfield 54, 3) := by decide +kernel
theorem dX4_prepare_23 : decode cX4_prepare 23 = .ok (.iconst 0, 1) := by decide +kernel
theorem dX4_prepare_24 : decode cX4_prepare 24 = .ok (.istore_n 2, 1) := by decide +kernel
theorem dX4_prepare_25 : decode cX4_prepare 25 = .ok (.iload_n 2, 1) := by decide +kernel
theorem dX4_prepare_26 : decode cX4_prepare 26 = .ok (.aload_n 1, 1) := by decide +kernel
theorem dX4_prepare_27 : decode cX4_prepare 27 = .ok (.getfield 74, 3) := by decide +kernel
theorem dX4_prepare_30 : decode cX4_prepare 30 = .ok (.if_icmp .ge 40, 3) := by decide +kernel
theorem dX4_prepare_33 : decode cX4_prepare 33 = .ok (.aload_n 0, 1) := by decide +kernel
theorem dX4_prepare_34 : decode cX4_prepare 34 = .ok (.getfield 22, 3) := by decide +kernel
theorem dX4_prepare_37 : decode cX4_prepare 37 = .ok (.iload_n 2, 1) := by decide +kernel
theorem dX4_prepare_38 : decode cX4_prepare 38 = .ok (.aload_n 1, 1) := by decide +kernel
theorem dX4_prepare_39 : decode cX4_prepare 39 = .ok (.aload_n 1, 1) := by decide +kernel
theorem dX4_prepare_40 : decode cX4_prepare 40 = .ok (.getfield 57, 3) := by decide +kernel
theorem dX4_prepare_43 : decode cX4_prepare 43 = .ok (.iload_n 2, 1) := by decide +kernel
theorem dX4_prepare_44 : decode cX4_prepare 44 = .ok (.iaload, 1) := by decide +kernel
theorem dX4_prepare_45 : decode cX4_prepare 45 = .ok (.invokevirtual 75, 3) := by decide +kernel
theorem dX4_prepare_48 : decode cX4_prepare 48 = .ok (.iastore, 1) := by decide +kernel
theorem dX4_prepare_49 : decode cX4_prepare 49 = .ok (.aload_n 0, 1) := by decide +kernel
theorem dX4_prepare_50 : decode cX4_prepare 50 = .ok (.getfield 25, 3) := by decide +kernel
theorem dX4_prepare_53 : decode cX4_prepare 53 = .ok (.iload_n 2, 1) := by decide +kernel
theorem dX4_prepare_54 : decode cX4_prepare 54 = .ok (.aload_n 1, 1) := by decide +kernel
theorem dX4_prepare_55 : decode cX4_prepare 55 = .ok (.getfield 57, 3) := by decide +kernel
theorem dX4_prepare_58 : decode cX4_prepare 58 = .ok (.iload_n 2, 1) := by decide +kernel
theorem dX4_prepare_59 : decode cX4_prepare 59 = .ok (.iaload, 1) := by decide +kernel
theorem dX4_prepare_60 : decode cX4_prepare 60 = .ok (.invokestatic 79, 3) := by decide +kernel
theorem dX4_prepare_63 : decode cX4_prepare 63 = .ok (.lastore, 1) := by decide +kernel
theorem dX4_prepare_64 : decode cX4_prepare 64 = .ok (.iinc 2 1, 3) := by decide +kernel
theorem dX4_prepare_67 : decode cX4_prepare 67 = .ok (.goto (-42), 3) := by decide +kernel
theorem dX4_prepare_70 : decode cX4_prepare 70 = .ok (.return_, 1) := by decide +kernel
theorem dX4_onceEach_0 : decode cX4_onceEach 0 = .ok (.lconst 0, 1) := by decide +kernel
theorem dX4_onceEach_1 : decode cX4_onceEach 1 = .ok (.lstore_n 1, 1) := by decide +kernel
theorem dX4_onceEach_2 : decode cX4_onceEach 2 = .ok (.iconst 0, 1) := by decide +kernel
theorem dX4_onceEach_3 : decode cX4_onceEach 3 = .ok (.istore_n 3, 1) := by decide +kernel
theorem dX4_onceEach_4 : decode cX4_onceEach 4 = .ok (.iload_n 3, 1) := by decide +kernel
theorem dX4_onceEach_5 : decode cX4_onceEach 5 = .ok (.bipush 10, 2) := by decide +kernel
theorem dX4_onceEach_7 : decode cX4_onceEach 7 = .ok (.if_icmp .ge 25, 3) := by decide +kernel
theorem dX4_onceEach_10 : decode cX4_onceEach 10 = .ok (.iload_n 0, 1) := by decide +kernel
theorem dX4_onceEach_11 : decode cX4_onceEach 11 = .ok (.iload_n 3, 1) := by decide +kernel
theorem dX4_onceEach_12 : decode cX4_onceEach 12 = .ok (.invokestatic 83, 3) := by decide +kernel
theorem dX4_onceEach_15 : decode cX4_onceEach 15 = .ok (.ifCond .eq 11, 3) := by decide +kernel
theorem dX4_onceEach_18 : decode cX4_onceEach 18 = .ok (.lload_n 1, 1) := by decide +kernel
theorem dX4_onceEach_19 : decode cX4_onceEach 19 = .ok (.lconst 1, 1) := by decide +kernel
theorem dX4_onceEach_20 : decode cX4_onceEach 20 = .ok (.iconst 4, 1) := by decide +kernel
theorem dX4_onceEach_21 : decode cX4_onceEach 21 = .ok (.iload_n 3, 1) := by decide +kernel
theorem dX4_onceEach_22 : decode cX4_onceEach 22 = .ok (.imul, 1) := by decide +kernel
theorem dX4_onceEach_23 : decode cX4_onceEach 23 = .ok (.lshl, 1) := by decide +kernel
theorem dX4_onceEach_24 : decode cX4_onceEach 24 = .ok (.lor, 1) := by decide +kernel
theorem dX4_onceEach_25 : decode cX4_onceEach 25 = .ok (.lstore_n 1, 1) := by decide +kernel
theorem dX4_onceEach_26 : decode cX4_onceEach 26 = .ok (.iinc 3 1, 3) := by decide +kernel
theorem dX4_onceEach_29 : decode cX4_onceEach 29 = .ok (.goto (-25), 3) := by decide +kernel
theorem dX4_onceEach_32 : decode cX4_onceEach 32 = .ok (.lload_n 1, 1) := by decide +kernel
theorem dX4_onceEach_33 : decode cX4_onceEach 33 = .ok (.lreturn, 1) := by decide +kernel
theorem dX4_lacking_0 : decode cX4_lacking 0 = .ok (.iconst 0, 1) := by decide +kernel
theorem dX4_lacking_1 : decode cX4_lacking 1 = .ok (.istore_n 2, 1) := by decide +kernel
theorem dX4_lacking_2 : decode cX4_lacking 2 = .ok (.iconst 0, 1) := by decide +kernel
theorem dX4_lacking_3 : decode cX4_lacking 3 = .ok (.istore_n 3, 1) := by decide +kernel
theorem dX4_lacking_4 : decode cX4_lacking 4 = .ok (.iload_n 3, 1) := by decide +kernel
theorem dX4_lacking_5 : decode cX4_lacking 5 = .ok (.bipush 10, 2) := by decide +kernel
theorem dX4_lacking_7 : decode cX4_lacking 7 = .ok (.if_icmp .ge 29, 3) := by decide +kernel
theorem dX4_lacking_10 : decode cX4_lacking 10 = .ok (.lload_n 0, 1) := by decide +kernel
theorem dX4_lacking_11 : decode cX4_lacking 11 = .ok (.iconst 4, 1) := by decide +kernel
theorem dX4_lacking_12 : decode cX4_lacking 12 = .ok (.iload_n 3, 1) := by decide +kernel
theorem dX4_lacking_13 : decode cX4_lacking 13 = .ok (.imul, 1) := by decide +kernel
theorem dX4_lacking_14 : decode cX4_lacking 14 = .ok (.lshr, 1) := by decide +kernel
theorem dX4_lacking_15 : decode cX4_lacking 15 = .ok (.ldc2_w 87, 3) := by decide +kernel
theorem dX4_lacking_18 : decode cX4_lacking 18 = .ok (.land, 1) := by decide +kernel
theorem dX4_lacking_19 : decode cX4_lacking 19 = .ok (.lconst 0, 1) := by decide +kernel
theorem dX4_lacking_20 : decode cX4_lacking 20 = .ok (.lcmp, 1) := by decide +kernel
theorem dX4_lacking_21 : decode cX4_lacking 21 = .ok (.ifCond .eq 9, 3) := by decide +kernel
theorem dX4_lacking_24 : decode cX4_lacking 24 = .ok (.iload_n 2, 1) := by decide +kernel
theorem dX4_lacking_25 : decode cX4_lacking 25 = .ok (.iconst 1, 1) := by decide +kernel
theorem dX4_lacking_26 : decode cX4_lacking 26 = .ok (.iload_n 3, 1) := by decide +kernel
theorem dX4_lacking_27 : decode cX4_lacking 27 = .ok (.ishl, 1) := by decide +kernel
theorem dX4_lacking_28 : decode cX4_lacking 28 = .ok (.ior, 1) := by decide +kernel
theorem dX4_lacking_29 : decode cX4_lacking 29 = .ok (.istore_n 2, 1) := by decide +kernel
theorem dX4_lacking_30 : decode cX4_lacking 30 = .ok (.iinc 3 1, 3) := by decide +kernel
theorem dX4_lacking_33 : decode cX4_lacking 33 = .ok (.goto (-29), 3) := by decide +kernel
theorem dX4_lacking_36 : decode cX4_lacking 36 = .ok (.iload_n 2, 1) := by decide +kernel
theorem dX4_lacking_37 : decode cX4_lacking 37 = .ok (.ireturn, 1) := by decide +kernel
theorem dX4_chooseWidest_0 : decode cX4_chooseWidest 0 = .ok (.iload_n 2, 1) := by decide +kernel
theorem dX4_chooseWidest_1 : decode cX4_chooseWidest 1 = .ok (.aload_n 0, 1) := by decide +kernel
theorem dX4_chooseWidest_2 : decode cX4_chooseWidest 2 = .ok (.getfield 71, 3) := by decide +kernel
theorem dX4_chooseWidest_5 : decode cX4_chooseWidest 5 = .ok (.if_icmp .ne 4, 3) := by decide +kernel
theorem dX4_chooseWidest_8 : decode cX4_chooseWidest 8 = .ok (.return_, 1) := by decide +kernel
theorem dX4_chooseWidest_9 : decode cX4_chooseWidest 9 = .ok (.aload_n 0, 1) := by decide +kernel
theorem dX4_chooseWidest_10 : decode cX4_chooseWidest 10 = .ok (.iload_n 2, 1) := by decide +kernel
theorem dX4_chooseWidest_11 : decode cX4_chooseWidest 11 = .ok (.putfield 71, 3) := by decide +kernel
theorem dX4_chooseWidest_14 : decode cX4_chooseWidest 14 = .ok (.aload_n 0, 1) := by decide +kernel
theorem dX4_chooseWidest_15 : decode cX4_chooseWidest 15 = .ok (.iconst 0, 1) := by decide +kernel
theorem dX4_chooseWidest_16 : decode cX4_chooseWidest 16 = .ok (.putfield 54, 3) := by decide +kernel
theorem dX4_chooseWidest_19 : decode cX4_chooseWidest 19 = .ok (.iconst 0, 1) := by decide +kernel
theorem dX4_chooseWidest_20 : decode cX4_chooseWidest 20 = .ok (.istore_n 3, 1) := by decide +kernel
theorem dX4_chooseWidest_21 : decode cX4_chooseWidest 21 = .ok (.iload_n 3, 1) := by decide +kernel
theorem dX4_chooseWidest_22 : decode cX4_chooseWidest 22 = .ok (.aload_n 1, 1) := by decide +kernel
theorem dX4_chooseWidest_23 : decode cX4_chooseWidest 23 = .ok (.getfield 74, 3) := by decide +kernel
theorem dX4_chooseWidest_26 : decode cX4_chooseWidest 26 = .ok (.if_icmp .ge 53, 3) := by decide +kernel
theorem dX4_chooseWidest_29 : decode cX4_chooseWidest 29 = .ok (.aload_n 1, 1) := by decide +kernel
theorem dX4_chooseWidest_30 : decode cX4_chooseWidest 30 = .ok (.getfield 57, 3) := by decide +kernel
theorem dX4_chooseWidest_33 : decode cX4_chooseWidest 33 = .ok (.iload_n 3, 1) := by decide +kernel
theorem dX4_chooseWidest_34 : decode cX4_chooseWidest 34 = .ok (.iaload, 1) := by decide +kernel
theorem dX4_chooseWidest_35 : decode cX4_chooseWidest 35 = .ok (.iload_n 2, 1) := by decide +kernel
theorem dX4_chooseWidest_36 : decode cX4_chooseWidest 36 = .ok (.iconst (-1), 1) := by decide +kernel
theorem dX4_chooseWidest_37 : decode cX4_chooseWidest 37 = .ok (.ixor, 1) := by decide +kernel
theorem dX4_chooseWidest_38 : decode cX4_chooseWidest 38 = .ok (.iand, 1) := by decide +kernel
theorem dX4_chooseWidest_39 : decode cX4_chooseWidest 39 = .ok (.ifCond .ne 34, 3) := by decide +kernel
theorem dX4_chooseWidest_42 : decode cX4_chooseWidest 42 = .ok (.aload_n 0, 1) := by decide +kernel
theorem dX4_chooseWidest_43 : decode cX4_chooseWidest 43 = .ok (.getfield 22, 3) := by decide +kernel
theorem dX4_chooseWidest_46 : decode cX4_chooseWidest 46 = .ok (.iload_n 3, 1) := by decide +kernel
theorem dX4_chooseWidest_47 : decode cX4_chooseWidest 47 = .ok (.iaload, 1) := by decide +kernel
theorem dX4_chooseWidest_48 : decode cX4_chooseWidest 48 = .ok (.iload_n 2, 1) := by decide +kernel
theorem dX4_chooseWidest_49 : decode cX4_chooseWidest 49 = .ok (.iand, 1) := by decide +kernel
theorem dX4_chooseWidest_50 : decode cX4_chooseWidest 50 = .ok (.ifCond .ne 23, 3) := by decide +kernel
theorem dX4_chooseWidest_53 : decode cX4_chooseWidest 53 = .ok (.aload_n 0, 1) := by decide +kernel
theorem dX4_chooseWidest_54 : decode cX4_chooseWidest 54 = .ok (.getfield 28, 3) := by decide +kernel
theorem dX4_chooseWidest_57 : decode cX4_chooseWidest 57 = .ok (.aload_n 0, 1) := by decide +kernel
theorem dX4_chooseWidest_58 : decode cX4_chooseWidest 58 = .ok (.getfield 54, 3) := by decide +kernel
theorem dX4_chooseWidest_61 : decode cX4_chooseWidest 61 = .ok (.iload_n 3, 1) := by decide +kernel
theorem dX4_chooseWidest_62 : decode cX4_chooseWidest 62 = .ok (.iastore, 1) := by decide +kernel
theorem dX4_chooseWidest_63 : decode cX4_chooseWidest 63 = .ok (.aload_n 0, 1) := by decide +kernel
theorem dX4_chooseWidest_64 : decode cX4_chooseWidest 64 = .ok (.dup, 1) := by decide +kernel
theorem dX4_chooseWidest_65 : decode cX4_chooseWidest 65 = .ok (.getfield 54, 3) := by decide +kernel
theorem dX4_chooseWidest_68 : decode cX4_chooseWidest 68 = .ok (.iconst 1, 1) := by decide +kernel
theorem dX4_chooseWidest_69 : decode cX4_chooseWidest 69 = .ok (.iadd, 1) := by decide +kernel
theorem dX4_chooseWidest_70 : decode cX4_chooseWidest 70 = .ok (.putfield 54, 3) := by decide +kernel
theorem dX4_chooseWidest_73 : decode cX4_chooseWidest 73 = .ok (.iinc 3 1, 3) := by decide +kernel
theorem dX4_chooseWidest_76 : decode cX4_chooseWidest 76 = .ok (.goto (-55), 3) := by decide +kernel
theorem dX4_chooseWidest_79 : decode cX4_chooseWidest 79 = .ok (.return_, 1) := by decide +kernel
theorem dX4_spotOf_0 : decode cX4_spotOf 0 = .ok (.lload_n 1, 1) := by decide +kernel
theorem dX4_spotOf_1 : decode cX4_spotOf 1 = .ok (.ldc2_w 89, 3) := by decide +kernel
theorem dX4_spotOf_4 : decode cX4_spotOf 4 = .ok (.lmul, 1) := by decide +kernel
theorem dX4_spotOf_5 : decode cX4_spotOf 5 = .ok (.bipush 51, 2) := by decide +kernel
theorem dX4_spotOf_7 : decode cX4_spotOf 7 = .ok (.lushr, 1) := by decide +kernel
theorem dX4_spotOf_8 : decode cX4_spotOf 8 = .ok (.l2i, 1) := by decide +kernel
theorem dX4_spotOf_9 : decode cX4_spotOf 9 = .ok (.istore_n 3, 1) := by decide +kernel
theorem dX4_spotOf_10 : decode cX4_spotOf 10 = .ok (.iconst 0, 1) := by decide +kernel
theorem dX4_spotOf_11 : decode cX4_spotOf 11 = .ok (.istore 4, 2) := by decide +kernel
theorem dX4_spotOf_13 : decode cX4_spotOf 13 = .ok (.iload 4, 2) := by decide +kernel
theorem dX4_spotOf_15 : decode cX4_spotOf 15 = .ok (.sipush 8192, 3) := by decide +kernel
theorem dX4_spotOf_18 : decode cX4_spotOf 18 = .ok (.if_icmp .ge 46, 3) := by decide +kernel
theorem dX4_spotOf_21 : decode cX4_spotOf 21 = .ok (.aload_n 0, 1) := by decide +kernel
theorem dX4_spotOf_22 : decode cX4_spotOf 22 = .ok (.getfield 19, 3) := by decide +kernel
theorem dX4_spotOf_25 : decode cX4_spotOf 25 = .ok (.iload_n 3, 1) := by decide +kernel
theorem dX4_spotOf_26 : decode cX4_spotOf 26 = .ok (.iaload, 1) := by decide +kernel
theorem dX4_spotOf_27 : decode cX4_spotOf 27 = .ok (.ifCond .eq 21, 3) := by decide +kernel
theorem dX4_spotOf_30 : decode cX4_spotOf 30 = .ok (.aload_n 0, 1) := by decide +kernel
theorem dX4_spotOf_31 : decode cX4_spotOf 31 = .ok (.getfield 9, 3) := by decide +kernel
theorem dX4_spotOf_34 : decode cX4_spotOf 34 = .ok (.aload_n 0, 1) := by decide +kernel
theorem dX4_spotOf_35 : decode cX4_spotOf 35 = .ok (.getfield 19, 3) := by decide +kernel
theorem dX4_spotOf_38 : decode cX4_spotOf 38 = .ok (.iload_n 3, 1) := by decide +kernel
theorem dX4_spotOf_39 : decode cX4_spotOf 39 = .ok (.iaload, 1) := by decide +kernel
theorem dX4_spotOf_40 : decode cX4_spotOf 40 = .ok (.iconst 1, 1) := by decide +kernel
theorem dX4_spotOf_41 : decode cX4_spotOf 41 = .ok (.isub, 1) := by decide +kernel
theorem dX4_spotOf_42 : decode cX4_spotOf 42 = .ok (.laload, 1) := by decide +kernel
theorem dX4_spotOf_43 : decode cX4_spotOf 43 = .ok (.lload_n 1, 1) := by decide +kernel
theorem dX4_spotOf_44 : decode cX4_spotOf 44 = .ok (.lcmp, 1) := by decide +kernel
theorem dX4_spotOf_45 : decode cX4_spotOf 45 = .ok (.ifCond .ne 5, 3) := by decide +kernel
theorem dX4_spotOf_48 : decode cX4_spotOf 48 = .ok (.iload_n 3, 1) := by decide +kernel
theorem dX4_spotOf_49 : decode cX4_spotOf 49 = .ok (.ireturn, 1) := by decide +kernel
theorem dX4_spotOf_50 : decode cX4_spotOf 50 = .ok (.iload_n 3, 1) := by decide +kernel
theorem dX4_spotOf_51 : decode cX4_spotOf 51 = .ok (.iconst 1, 1) := by decide +kernel
theorem dX4_spotOf_52 : decode cX4_spotOf 52 = .ok (.iadd, 1) := by decide +kernel
theorem dX4_spotOf_53 : decode cX4_spotOf 53 = .ok (.sipush 8191, 3) := by decide +kernel
theorem dX4_spotOf_56 : decode cX4_spotOf 56 = .ok (.iand, 1) := by decide +kernel
theorem dX4_spotOf_57 : decode cX4_spotOf 57 = .ok (.istore_n 3, 1) := by decide +kernel
theorem dX4_spotOf_58 : decode cX4_spotOf 58 = .ok (.iinc 4 1, 3) := by decide +kernel
theorem dX4_spotOf_61 : decode cX4_spotOf 61 = .ok (.goto (-48), 3) := by decide +kernel
theorem dX4_spotOf_64 : decode cX4_spotOf 64 = .ok (.iload_n 3, 1) := by decide +kernel
theorem dX4_spotOf_65 : decode cX4_spotOf 65 = .ok (.ireturn, 1) := by decide +kernel
theorem dX4_remember_0 : decode cX4_remember 0 = .ok (.aload_n 0, 1) := by decide +kernel
theorem dX4_remember_1 : decode cX4_remember 1 = .ok (.getfield 9, 3) := by decide +kernel
theorem dX4_remember_4 : decode cX4_remember 4 = .ok (.aload_n 0, 1) := by decide +kernel
theorem dX4_remember_5 : decode cX4_remember 5 = .ok (.getfield 43, 3) := by decide +kernel
theorem dX4_remember_8 : decode cX4_remember 8 = .ok (.lload_n 1, 1) := by decide +kernel
theorem dX4_remember_9 : decode cX4_remember 9 = .ok (.lastore, 1) := by decide +kernel
theorem dX4_remember_10 : decode cX4_remember 10 = .ok (.aload_n 0, 1) := by decide +kernel
theorem dX4_remember_11 : decode cX4_remember 11 = .ok (.getfield 15, 3) := by decide +kernel
theorem dX4_remember_14 : decode cX4_remember 14 = .ok (.aload_n 0, 1) := by decide +kernel
theorem dX4_remember_15 : decode cX4_remember 15 = .ok (.getfield 43, 3) := by decide +kernel
theorem dX4_remember_18 : decode cX4_remember 18 = .ok (.iload_n 3, 1) := by decide +kernel
theorem dX4_remember_19 : decode cX4_remember 19 = .ok (.iastore, 1) := by decide +kernel
theorem dX4_remember_20 : decode cX4_remember 20 = .ok (.aload_n 0, 1) := by decide +kernel
theorem dX4_remember_21 : decode cX4_remember 21 = .ok (.dup, 1) := by decide +kernel
theorem dX4_remember_22 : decode cX4_remember 22 = .ok (.getfield 43, 3) := by decide +kernel
theorem dX4_remember_25 : decode cX4_remember 25 = .ok (.iconst 1, 1) := by decide +kernel
theorem dX4_remember_26 : decode cX4_remember 26 = .ok (.iadd, 1) := by decide +kernel
theorem dX4_remember_27 : decode cX4_remember 27 = .ok (.putfield 43, 3) := by decide +kernel
theorem dX4_remember_30 : decode cX4_remember 30 = .ok (.aload_n 0, 1) := by decide +kernel
theorem dX4_remember_31 : decode cX4_remember 31 = .ok (.getfield 19, 3) := by decide +kernel
theorem dX4_remember_34 : decode cX4_remember 34 = .ok (.iload 4, 2) := by decide +kernel
theorem dX4_remember_36 : decode cX4_remember 36 = .ok (.aload_n 0, 1) := by decide +kernel
theorem dX4_remember_37 : decode cX4_remember 37 = .ok (.getfield 43, 3) := by decide +kernel
theorem dX4_remember_40 : decode cX4_remember 40 = .ok (.iastore, 1) := by decide +kernel
theorem dX4_remember_41 : decode cX4_remember 41 = .ok (.return_, 1) := by decide +kernel
theorem dX4_tellRow_0 : decode cX4_tellRow 0 = .ok (.iconst 1, 1) := by decide +kernel
theorem dX4_tellRow_1 : decode cX4_tellRow 1 = .ok (.istore_n 2, 1) := by decide +kernel
theorem dX4_tellRow_2 : decode cX4_tellRow 2 = .ok (.aload_n 1, 1) := by decide +kernel
theorem dX4_tellRow_3 : decode cX4_tellRow 3 = .ok (.getfield 91, 3) := by decide +kernel
theorem dX4_tellRow_6 : decode cX4_tellRow 6 = .ok (.arraylength, 1) := by decide +kernel
theorem dX4_tellRow_7 : decode cX4_tellRow 7 = .ok (.istore_n 3, 1) := by decide +kernel
theorem dX4_tellRow_8 : decode cX4_tellRow 8 = .ok (.aload_n 0, 1) := by decide +kernel
theorem dX4_tellRow_9 : decode cX4_tellRow 9 = .ok (.getfield 62, 3) := by decide +kernel
theorem dX4_tellRow_12 : decode cX4_tellRow 12 = .ok (.sipush 1024, 3) := by decide +kernel
theorem dX4_tellRow_15 : decode cX4_tellRow 15 = .ok (.idiv, 1) := by decide +kernel
theorem dX4_tellRow_16 : decode cX4_tellRow 16 = .ok (.istore 4, 2) := by decide +kernel
theorem dX4_tellRow_18 : decode cX4_tellRow 18 = .ok (.iload 4, 2) := by decide +kernel
theorem dX4_tellRow_20 : decode cX4_tellRow 20 = .ok (.ifCond .le 27, 3) := by decide +kernel
theorem dX4_tellRow_23 : decode cX4_tellRow 23 = .ok (.iload_n 2, 1) := by decide +kernel
theorem dX4_tellRow_24 : decode cX4_tellRow 24 = .ok (.iload_n 3, 1) := by decide +kernel
theorem dX4_tellRow_25 : decode cX4_tellRow 25 = .ok (.if_icmp .ge 22, 3) := by decide +kernel
theorem dX4_tellRow_28 : decode cX4_tellRow 28 = .ok (.iinc 2 1, 3) := by decide +kernel
theorem dX4_tellRow_31 : decode cX4_tellRow 31 = .ok (.aload_n 0, 1) := by decide +kernel
theorem dX4_tellRow_32 : decode cX4_tellRow 32 = .ok (.getfield 15, 3) := by decide +kernel
theorem dX4_tellRow_35 : decode cX4_tellRow 35 = .ok (.iload 4, 2) := by decide +kernel
theorem dX4_tellRow_37 : decode cX4_tellRow 37 = .ok (.iaload, 1) := by decide +kernel
