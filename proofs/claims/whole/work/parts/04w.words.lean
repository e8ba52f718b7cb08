set_option maxRecDepth 100000 in
theorem it_L : Cond.initialized RL ∈ lw_tbl := List.mem_of_getElem? (i := 69) (by decide +kernel)
set_option maxRecDepth 100000 in
theorem it_X7 : Cond.initialized RX7 ∈ lw_tbl := List.mem_of_getElem? (i := 70) (by decide +kernel)
set_option maxRecDepth 100000 in
theorem it_X2 : Cond.initialized RX2 ∈ lw_tbl := List.mem_of_getElem? (i := 71) (by decide +kernel)
set_option maxRecDepth 100000 in
theorem it_X3 : Cond.initialized RX3 ∈ lw_tbl := List.mem_of_getElem? (i := 72) (by decide +kernel)
set_option maxRecDepth 100000 in
theorem it_X5 : Cond.initialized RX5 ∈ lw_tbl := List.mem_of_getElem? (i := 73) (by decide +kernel)
set_option maxRecDepth 100000 in
theorem it_X1 : Cond.initialized RX1 ∈ lw_tbl := List.mem_of_getElem? (i := 74) (by decide +kernel)
set_option maxRecDepth 100000 in
theorem it_X8 : Cond.initialized RX8 ∈ lw_tbl := List.mem_of_getElem? (i := 75) (by decide +kernel)
set_option maxRecDepth 100000 in
theorem it_X0 : Cond.initialized RX0 ∈ lw_tbl := List.mem_of_getElem? (i := 76) (by decide +kernel)
set_option maxRecDepth 100000 in
theorem it_J6 : Cond.initialized RJ6 ∈ lw_tbl := List.mem_of_getElem? (i := 77) (by decide +kernel)
set_option maxRecDepth 100000 in
theorem it_J9 : Cond.initialized RJ9 ∈ lw_tbl := List.mem_of_getElem? (i := 78) (by decide +kernel)
set_option maxRecDepth 100000 in
theorem it_X4 : Cond.initialized RX4 ∈ lw_tbl := List.mem_of_getElem? (i := 79) (by decide +kernel)
set_option maxRecDepth 100000 in
theorem it_J7 : Cond.initialized RJ7 ∈ lw_tbl := List.mem_of_getElem? (i := 80) (by decide +kernel)
set_option maxRecDepth 100000 in
theorem it_X6 : Cond.initialized RX6 ∈ lw_tbl := List.mem_of_getElem? (i := 81) (by decide +kernel)
set_option maxRecDepth 100000 in
theorem it_J10 : Cond.initialized RJ10 ∈ lw_tbl := List.mem_of_getElem? (i := 82) (by decide +kernel)
set_option maxRecDepth 100000 in
theorem kl_L_7 : Cond.classLink RL 7 RX7 ∈ lw_tbl := List.mem_of_getElem? (i := 83) (by decide +kernel)
set_option maxRecDepth 100000 in
theorem in_X7 : Cond.instantiable RX7 11 ∈ lw_tbl := List.mem_of_getElem? (i := 84) (by decide +kernel)
set_option maxRecDepth 100000 in
theorem cw_L_9 : q_CI RL 9 yX7_init cX7_init 1 0 := ⟨Or.inl (List.mem_of_getElem? (i := 85) (by decide +kernel)), rfl, List.mem_of_getElem? (i := 86) (by decide +kernel), List.mem_of_getElem? (i := 87) (by decide +kernel), List.mem_of_getElem? (i := 70) (by decide +kernel), ⟨by decide +kernel, by decide +kernel, by decide +kernel⟩⟩
set_option maxRecDepth 100000 in
theorem wl_X7_3 : Cond.methodLink RX7 3 objectInit ∈ lw_tbl := List.mem_of_getElem? (i := 88) (by decide +kernel)
set_option maxRecDepth 100000 in
theorem kl_X7_9 : Cond.classLink RX7 9 RX2 ∈ lw_tbl := List.mem_of_getElem? (i := 91) (by decide +kernel)
set_option maxRecDepth 100000 in
theorem in_X2 : Cond.instantiable RX2 8 ∈ lw_tbl := List.mem_of_getElem? (i := 92) (by decide +kernel)
set_option maxRecDepth 100000 in
theorem cw_X7_11 : q_CI RX7 11 yX2_init cX2_init 1 0 := ⟨Or.inr ⟨"HopBeams", List.mem_of_getElem? (i := 93) (by decide +kernel)⟩, rfl, List.mem_of_getElem? (i := 94) (by decide +kernel), List.mem_of_getElem? (i := 95) (by decide +kernel), List.mem_of_getElem? (i := 71) (by decide +kernel), ⟨by decide +kernel, by decide +kernel, by decide +kernel⟩⟩
set_option maxRecDepth 100000 in
theorem wl_X2_3 : Cond.methodLink RX2 3 objectInit ∈ lw_tbl := List.mem_of_getElem? (i := 96) (by decide +kernel)
set_option maxRecDepth 100000 in
theorem kl_X2_9 : Cond.classLink RX2 9 RX0 ∈ lw_tbl := List.mem_of_getElem? (i := 97) (by decide +kernel)
set_option maxRecDepth 100000 in
theorem ar_arrayOver_objectHopBeamsCell : Cond.arrayOver (.object "HopBeams$Cell") ∈ lw_tbl := List.mem_of_getElem? (i := 98) (by decide +kernel)
set_option maxRecDepth 100000 in
theorem fl_X2_11 : q_FL RX2 11 2 0 := ⟨RX2, TX2, 8, q_ok2, by decide, rfl, Or.inl (List.mem_of_getElem? (i := 99) (by decide +kernel))⟩
set_option maxRecDepth 100000 in
theorem ff_X2_11 : q_FF RX2 11 2 0 := ⟨RX2, TX2, 8, q_ok2, by decide, rfl, rfl, rfl, List.mem_of_getElem? (i := 99) (by decide +kernel)⟩
set_option maxRecDepth 100000 in
theorem fl_X7_78 : q_FL RX7 78 2 0 := ⟨RX2, TX2, 8, q_ok2, by decide, rfl, Or.inr ⟨"HopBeams", List.mem_of_getElem? (i := 100) (by decide +kernel)⟩⟩
set_option maxRecDepth 100000 in
theorem fl_X2_38 : q_FL RX2 38 2 1 := ⟨RX2, TX2, 8, q_ok2, by decide, rfl, Or.inl (List.mem_of_getElem? (i := 101) (by decide +kernel))⟩
theorem fw_X2_38 : q_FW RX2 38 2 1 := ⟨RX2, TX2, 8, q_ok2, by decide, rfl, rfl, (by obtain ⟨C, T, N, o1, o2, o3, o4⟩ := fl_X2_38; have e := Option.some.inj (o1.1.symm.trans q_ok2.1); cases e; exact o4)⟩
set_option maxRecDepth 100000 in
theorem fl_X7_75 : q_FL RX7 75 2 1 := ⟨RX2, TX2, 8, q_ok2, by decide, rfl, Or.inr ⟨"HopBeams", List.mem_of_getElem? (i := 102) (by decide +kernel)⟩⟩
theorem fw_X7_75 : q_FW RX7 75 2 1 := ⟨RX2, TX2, 8, q_ok2, by decide, rfl, rfl, (by obtain ⟨C, T, N, o1, o2, o3, o4⟩ := fl_X7_75; have e := Option.some.inj (o1.1.symm.trans q_ok2.1); cases e; exact o4)⟩
set_option maxRecDepth 100000 in
theorem fl_X2_17 : q_FL RX2 17 2 2 := ⟨RX2, TX2, 8, q_ok2, by decide, rfl, Or.inl (List.mem_of_getElem? (i := 103) (by decide +kernel))⟩
set_option maxRecDepth 100000 in
theorem ff_X2_17 : q_FF RX2 17 2 2 := ⟨RX2, TX2, 8, q_ok2, by decide, rfl, rfl, rfl, List.mem_of_getElem? (i := 103) (by decide +kernel)⟩
set_option maxRecDepth 100000 in
theorem fl_X7_104 : q_FL RX7 104 2 2 := ⟨RX2, TX2, 8, q_ok2, by decide, rfl, Or.inr ⟨"HopBeams", List.mem_of_getElem? (i := 104) (by decide +kernel)⟩⟩
set_option maxRecDepth 100000 in
theorem fl_X2_21 : q_FL RX2 21 2 3 := ⟨RX2, TX2, 8, q_ok2, by decide, rfl, Or.inl (List.mem_of_getElem? (i := 105) (by decide +kernel))⟩
set_option maxRecDepth 100000 in
theorem ff_X2_21 : q_FF RX2 21 2 3 := ⟨RX2, TX2, 8, q_ok2, by decide, rfl, rfl, rfl, List.mem_of_getElem? (i := 105) (by decide +kernel)⟩
set_option maxRecDepth 100000 in
theorem fl_X7_107 : q_FL RX7 107 2 3 := ⟨RX2, TX2, 8, q_ok2, by decide, rfl, Or.inr ⟨"HopBeams", List.mem_of_getElem? (i := 106) (by decide +kernel)⟩⟩
set_option maxRecDepth 100000 in
theorem fl_X2_25 : q_FL RX2 25 2 4 := ⟨RX2, TX2, 8, q_ok2, by decide, rfl, Or.inl (List.mem_of_getElem? (i := 107) (by decide +kernel))⟩
theorem fw_X2_25 : q_FW RX2 25 2 4 := ⟨RX2, TX2, 8, q_ok2, by decide, rfl, rfl, (by obtain ⟨C, T, N, o1, o2, o3, o4⟩ := fl_X2_25; have e := Option.some.inj (o1.1.symm.trans q_ok2.1); cases e; exact o4)⟩
set_option maxRecDepth 100000 in
theorem fl_X7_57 : q_FL RX7 57 2 4 := ⟨RX2, TX2, 8, q_ok2, by decide, rfl, Or.inr ⟨"HopBeams", List.mem_of_getElem? (i := 108) (by decide +kernel)⟩⟩
theorem fw_X7_57 : q_FW RX7 57 2 4 := ⟨RX2, TX2, 8, q_ok2, by decide, rfl, rfl, (by obtain ⟨C, T, N, o1, o2, o3, o4⟩ := fl_X7_57; have e := Option.some.inj (o1.1.symm.trans q_ok2.1); cases e; exact o4)⟩
set_option maxRecDepth 100000 in
theorem fl_X2_29 : q_FL RX2 29 2 5 := ⟨RX2, TX2, 8, q_ok2, by decide, rfl, Or.inl (List.mem_of_getElem? (i := 109) (by decide +kernel))⟩
theorem fw_X2_29 : q_FW RX2 29 2 5 := ⟨RX2, TX2, 8, q_ok2, by decide, rfl, rfl, (by obtain ⟨C, T, N, o1, o2, o3, o4⟩ := fl_X2_29; have e := Option.some.inj (o1.1.symm.trans q_ok2.1); cases e; exact o4)⟩
set_option maxRecDepth 100000 in
theorem fl_X7_60 : q_FL RX7 60 2 5 := ⟨RX2, TX2, 8, q_ok2, by decide, rfl, Or.inr ⟨"HopBeams", List.mem_of_getElem? (i := 110) (by decide +kernel)⟩⟩
theorem fw_X7_60 : q_FW RX7 60 2 5 := ⟨RX2, TX2, 8, q_ok2, by decide, rfl, rfl, (by obtain ⟨C, T, N, o1, o2, o3, o4⟩ := fl_X7_60; have e := Option.some.inj (o1.1.symm.trans q_ok2.1); cases e; exact o4)⟩
set_option maxRecDepth 100000 in
theorem fl_X2_32 : q_FL RX2 32 2 6 := ⟨RX2, TX2, 8, q_ok2, by decide, rfl, Or.inl (List.mem_of_getElem? (i := 111) (by decide +kernel))⟩
theorem fw_X2_32 : q_FW RX2 32 2 6 := ⟨RX2, TX2, 8, q_ok2, by decide, rfl, rfl, (by obtain ⟨C, T, N, o1, o2, o3, o4⟩ := fl_X2_32; have e := Option.some.inj (o1.1.symm.trans q_ok2.1); cases e; exact o4)⟩
set_option maxRecDepth 100000 in
theorem fl_X7_63 : q_FL RX7 63 2 6 := ⟨RX2, TX2, 8, q_ok2, by decide, rfl, Or.inr ⟨"HopBeams", List.mem_of_getElem? (i := 112) (by decide +kernel)⟩⟩
theorem fw_X7_63 : q_FW RX7 63 2 6 := ⟨RX2, TX2, 8, q_ok2, by decide, rfl, rfl, (by obtain ⟨C, T, N, o1, o2, o3, o4⟩ := fl_X7_63; have e := Option.some.inj (o1.1.symm.trans q_ok2.1); cases e; exact o4)⟩
set_option maxRecDepth 100000 in
theorem fl_X2_35 : q_FL RX2 35 2 7 := ⟨RX2, TX2, 8, q_ok2, by decide, rfl, Or.inl (List.mem_of_getElem? (i := 113) (by decide +kernel))⟩
theorem fw_X2_35 : q_FW RX2 35 2 7 := ⟨RX2, TX2, 8, q_ok2, by decide, rfl, rfl, (by obtain ⟨C, T, N, o1, o2, o3, o4⟩ := fl_X2_35; have e := Option.some.inj (o1.1.symm.trans q_ok2.1); cases e; exact o4)⟩
set_option maxRecDepth 100000 in
theorem fl_X7_66 : q_FL RX7 66 2 7 := ⟨RX2, TX2, 8, q_ok2, by decide, rfl, Or.inr ⟨"HopBeams", List.mem_of_getElem? (i := 114) (by decide +kernel)⟩⟩
theorem fw_X7_66 : q_FW RX7 66 2 7 := ⟨RX2, TX2, 8, q_ok2, by decide, rfl, rfl, (by obtain ⟨C, T, N, o1, o2, o3, o4⟩ := fl_X7_66; have e := Option.some.inj (o1.1.symm.trans q_ok2.1); cases e; exact o4)⟩
set_option maxRecDepth 100000 in
theorem ar_arrayClass_int : Cond.arrayClass .int ∈ lw_tbl := List.mem_of_getElem? (i := 132) (by decide +kernel)
set_option maxRecDepth 100000 in
theorem ar_arrayClass_boolean : Cond.arrayClass .boolean ∈ lw_tbl := List.mem_of_getElem? (i := 133) (by decide +kernel)
set_option maxRecDepth 100000 in
theorem kl_X7_16 : Cond.classLink RX7 16 RX3 ∈ lw_tbl := List.mem_of_getElem? (i := 134) (by decide +kernel)
set_option maxRecDepth 100000 in
theorem in_X3 : Cond.instantiable RX3 4 ∈ lw_tbl := List.mem_of_getElem? (i := 135) (by decide +kernel)
set_option maxRecDepth 100000 in
theorem cw_X7_18 : q_CI RX7 18 yX3_init cX3_init 1 0 := ⟨Or.inr ⟨"HopBeams", List.mem_of_getElem? (i := 136) (by decide +kernel)⟩, rfl, List.mem_of_getElem? (i := 137) (by decide +kernel), List.mem_of_getElem? (i := 138) (by decide +kernel), List.mem_of_getElem? (i := 72) (by decide +kernel), ⟨by decide +kernel, by decide +kernel, by decide +kernel⟩⟩
set_option maxRecDepth 100000 in
theorem wl_X3_3 : Cond.methodLink RX3 3 objectInit ∈ lw_tbl := List.mem_of_getElem? (i := 139) (by decide +kernel)
set_option maxRecDepth 100000 in
theorem fl_X3_9 : q_FL RX3 9 3 0 := ⟨RX3, TX3, 4, q_ok3, by decide, rfl, Or.inl (List.mem_of_getElem? (i := 140) (by decide +kernel))⟩
set_option maxRecDepth 100000 in
theorem ff_X3_9 : q_FF RX3 9 3 0 := ⟨RX3, TX3, 4, q_ok3, by decide, rfl, rfl, rfl, List.mem_of_getElem? (i := 140) (by decide +kernel)⟩
set_option maxRecDepth 100000 in
theorem fl_X3_15 : q_FL RX3 15 3 1 := ⟨RX3, TX3, 4, q_ok3, by decide, rfl, Or.inl (List.mem_of_getElem? (i := 141) (by decide +kernel))⟩
set_option maxRecDepth 100000 in
theorem ff_X3_15 : q_FF RX3 15 3 1 := ⟨RX3, TX3, 4, q_ok3, by decide, rfl, rfl, rfl, List.mem_of_getElem? (i := 141) (by decide +kernel)⟩
set_option maxRecDepth 100000 in
theorem fl_X4_57 : q_FL RX4 57 3 1 := ⟨RX3, TX3, 4, q_ok3, by decide, rfl, Or.inr ⟨"HopBeams", List.mem_of_getElem? (i := 142) (by decide +kernel)⟩⟩
set_option maxRecDepth 100000 in
theorem fl_X3_22 : q_FL RX3 22 3 2 := ⟨RX3, TX3, 4, q_ok3, by decide, rfl, Or.inl (List.mem_of_getElem? (i := 143) (by decide +kernel))⟩
theorem fw_X3_22 : q_FW RX3 22 3 2 := ⟨RX3, TX3, 4, q_ok3, by decide, rfl, rfl, (by obtain ⟨C, T, N, o1, o2, o3, o4⟩ := fl_X3_22; have e := Option.some.inj (o1.1.symm.trans q_ok3.1); cases e; exact o4)⟩
set_option maxRecDepth 100000 in
theorem fl_X4_74 : q_FL RX4 74 3 2 := ⟨RX3, TX3, 4, q_ok3, by decide, rfl, Or.inr ⟨"HopBeams", List.mem_of_getElem? (i := 144) (by decide +kernel)⟩⟩
theorem fw_X4_74 : q_FW RX4 74 3 2 := ⟨RX3, TX3, 4, q_ok3, by decide, rfl, rfl, (by obtain ⟨C, T, N, o1, o2, o3, o4⟩ := fl_X4_74; have e := Option.some.inj (o1.1.symm.trans q_ok3.1); cases e; exact o4)⟩
set_option maxRecDepth 100000 in
theorem fl_X7_142 : q_FL RX7 142 3 2 := ⟨RX3, TX3, 4, q_ok3, by decide, rfl, Or.inr ⟨"HopBeams", List.mem_of_getElem? (i := 145) (by decide +kernel)⟩⟩
theorem fw_X7_142 : q_FW RX7 142 3 2 := ⟨RX3, TX3, 4, q_ok3, by decide, rfl, rfl, (by obtain ⟨C, T, N, o1, o2, o3, o4⟩ := fl_X7_142; have e := Option.some.inj (o1.1.symm.trans q_ok3.1); cases e; exact o4)⟩
set_option maxRecDepth 100000 in
theorem fl_X3_19 : q_FL RX3 19 3 3 := ⟨RX3, TX3, 4, q_ok3, by decide, rfl, Or.inl (List.mem_of_getElem? (i := 146) (by decide +kernel))⟩
set_option maxRecDepth 100000 in
theorem ff_X3_19 : q_FF RX3 19 3 3 := ⟨RX3, TX3, 4, q_ok3, by decide, rfl, rfl, rfl, List.mem_of_getElem? (i := 146) (by decide +kernel)⟩
set_option maxRecDepth 100000 in
theorem fl_X7_192 : q_FL RX7 192 3 3 := ⟨RX3, TX3, 4, q_ok3, by decide, rfl, Or.inr ⟨"HopBeams", List.mem_of_getElem? (i := 147) (by decide +kernel)⟩⟩
set_option maxRecDepth 100000 in
theorem kl_X7_23 : Cond.classLink RX7 23 RX5 ∈ lw_tbl := List.mem_of_getElem? (i := 157) (by decide +kernel)
set_option maxRecDepth 100000 in
theorem in_X5 : Cond.instantiable RX5 3 ∈ lw_tbl := List.mem_of_getElem? (i := 158) (by decide +kernel)
set_option maxRecDepth 100000 in
theorem cw_X7_25 : q_CI RX7 25 yX5_init cX5_init 1 0 := ⟨Or.inr ⟨"HopBeams", List.mem_of_getElem? (i := 159) (by decide +kernel)⟩, rfl, List.mem_of_getElem? (i := 160) (by decide +kernel), List.mem_of_getElem? (i := 161) (by decide +kernel), List.mem_of_getElem? (i := 73) (by decide +kernel), ⟨by decide +kernel, by decide +kernel, by decide +kernel⟩⟩
set_option maxRecDepth 100000 in
theorem wl_X5_3 : Cond.methodLink RX5 3 objectInit ∈ lw_tbl := List.mem_of_getElem? (i := 162) (by decide +kernel)
set_option maxRecDepth 100000 in
theorem kl_X5_11 : Cond.classLink RX5 11 "[[J" ∈ lw_tbl := List.mem_of_getElem? (i := 163) (by decide +kernel)
set_option maxRecDepth 100000 in
theorem ar_arrayOver_arraylong : Cond.arrayOver (.array .long) ∈ lw_tbl := List.mem_of_getElem? (i := 164) (by decide +kernel)
set_option maxRecDepth 100000 in
theorem fl_X5_13 : q_FL RX5 13 5 0 := ⟨RX5, TX5, 3, q_ok5, by decide, rfl, Or.inl (List.mem_of_getElem? (i := 165) (by decide +kernel))⟩
set_option maxRecDepth 100000 in
theorem ff_X5_13 : q_FF RX5 13 5 0 := ⟨RX5, TX5, 3, q_ok5, by decide, rfl, rfl, rfl, List.mem_of_getElem? (i := 165) (by decide +kernel)⟩
set_option maxRecDepth 100000 in
theorem fl_X5_16 : q_FL RX5 16 5 1 := ⟨RX5, TX5, 3, q_ok5, by decide, rfl, Or.inl (List.mem_of_getElem? (i := 166) (by decide +kernel))⟩
set_option maxRecDepth 100000 in
theorem ff_X5_16 : q_FF RX5 16 5 1 := ⟨RX5, TX5, 3, q_ok5, by decide, rfl, rfl, rfl, List.mem_of_getElem? (i := 166) (by decide +kernel)⟩
set_option maxRecDepth 100000 in
theorem fl_X5_20 : q_FL RX5 20 5 2 := ⟨RX5, TX5, 3, q_ok5, by decide, rfl, Or.inl (List.mem_of_getElem? (i := 167) (by decide +kernel))⟩
set_option maxRecDepth 100000 in
theorem ff_X5_20 : q_FF RX5 20 5 2 := ⟨RX5, TX5, 3, q_ok5, by decide, rfl, rfl, rfl, List.mem_of_getElem? (i := 167) (by decide +kernel)⟩
set_option maxRecDepth 100000 in
theorem ar_arrayClass_long : Cond.arrayClass .long ∈ lw_tbl := List.mem_of_getElem? (i := 175) (by decide +kernel)
set_option maxRecDepth 100000 in
theorem kl_X7_30 : Cond.classLink RX7 30 RX1 ∈ lw_tbl := List.mem_of_getElem? (i := 176) (by decide +kernel)
set_option maxRecDepth 100000 in
theorem in_X1 : Cond.instantiable RX1 2 ∈ lw_tbl := List.mem_of_getElem? (i := 177) (by decide +kernel)
set_option maxRecDepth 100000 in
theorem cw_X7_32 : q_CI RX7 32 yX1_init cX1_init 1 0 := ⟨Or.inr ⟨"HopBeams", List.mem_of_getElem? (i := 178) (by decide +kernel)⟩, rfl, List.mem_of_getElem? (i := 179) (by decide +kernel), List.mem_of_getElem? (i := 180) (by decide +kernel), List.mem_of_getElem? (i := 74) (by decide +kernel), ⟨by decide +kernel, by decide +kernel, by decide +kernel⟩⟩
set_option maxRecDepth 100000 in
theorem wl_X1_3 : Cond.methodLink RX1 3 objectInit ∈ lw_tbl := List.mem_of_getElem? (i := 181) (by decide +kernel)
set_option maxRecDepth 100000 in
theorem fl_X1_9 : q_FL RX1 9 1 0 := ⟨RX1, TX1, 2, q_ok1, by decide, rfl, Or.inl (List.mem_of_getElem? (i := 182) (by decide +kernel))⟩
set_option maxRecDepth 100000 in
theorem ff_X1_9 : q_FF RX1 9 1 0 := ⟨RX1, TX1, 2, q_ok1, by decide, rfl, rfl, rfl, List.mem_of_getElem? (i := 182) (by decide +kernel)⟩
set_option maxRecDepth 100000 in
theorem fl_X4_91 : q_FL RX4 91 1 0 := ⟨RX1, TX1, 2, q_ok1, by decide, rfl, Or.inr ⟨"HopBeams", List.mem_of_getElem? (i := 183) (by decide +kernel)⟩⟩
set_option maxRecDepth 100000 in
theorem fl_X7_174 : q_FL RX7 174 1 0 := ⟨RX1, TX1, 2, q_ok1, by decide, rfl, Or.inr ⟨"HopBeams", List.mem_of_getElem? (i := 184) (by decide +kernel)⟩⟩
set_option maxRecDepth 100000 in
theorem fl_X1_15 : q_FL RX1 15 1 1 := ⟨RX1, TX1, 2, q_ok1, by decide, rfl, Or.inl (List.mem_of_getElem? (i := 185) (by decide +kernel))⟩
theorem fw_X1_15 : q_FW RX1 15 1 1 := ⟨RX1, TX1, 2, q_ok1, by decide, rfl, rfl, (by obtain ⟨C, T, N, o1, o2, o3, o4⟩ := fl_X1_15; have e := Option.some.inj (o1.1.symm.trans q_ok1.1); cases e; exact o4)⟩
set_option maxRecDepth 100000 in
theorem fl_X4_96 : q_FL RX4 96 1 1 := ⟨RX1, TX1, 2, q_ok1, by decide, rfl, Or.inr ⟨"HopBeams", List.mem_of_getElem? (i := 186) (by decide +kernel)⟩⟩
theorem fw_X4_96 : q_FW RX4 96 1 1 := ⟨RX1, TX1, 2, q_ok1, by decide, rfl, rfl, (by obtain ⟨C, T, N, o1, o2, o3, o4⟩ := fl_X4_96; have e := Option.some.inj (o1.1.symm.trans q_ok1.1); cases e; exact o4)⟩
set_option maxRecDepth 100000 in
theorem fl_X7_150 : q_FL RX7 150 1 1 := ⟨RX1, TX1, 2, q_ok1, by decide, rfl, Or.inr ⟨"HopBeams", List.mem_of_getElem? (i := 187) (by decide +kernel)⟩⟩
theorem fw_X7_150 : q_FW RX7 150 1 1 := ⟨RX1, TX1, 2, q_ok1, by decide, rfl, rfl, (by obtain ⟨C, T, N, o1, o2, o3, o4⟩ := fl_X7_150; have e := Option.some.inj (o1.1.symm.trans q_ok1.1); cases e; exact o4)⟩
set_option maxRecDepth 100000 in
theorem fl_X7_12 : q_FL RX7 12 7 0 := ⟨RX7, TX7, 11, q_ok7, by decide, rfl, Or.inl (List.mem_of_getElem? (i := 193) (by decide +kernel))⟩
set_option maxRecDepth 100000 in
theorem ff_X7_12 : q_FF RX7 12 7 0 := ⟨RX7, TX7, 11, q_ok7, by decide, rfl, rfl, rfl, List.mem_of_getElem? (i := 193) (by decide +kernel)⟩
set_option maxRecDepth 100000 in
theorem fl_X7_19 : q_FL RX7 19 7 1 := ⟨RX7, TX7, 11, q_ok7, by decide, rfl, Or.inl (List.mem_of_getElem? (i := 194) (by decide +kernel))⟩
set_option maxRecDepth 100000 in
theorem ff_X7_19 : q_FF RX7 19 7 1 := ⟨RX7, TX7, 11, q_ok7, by decide, rfl, rfl, rfl, List.mem_of_getElem? (i := 194) (by decide +kernel)⟩
set_option maxRecDepth 100000 in
theorem fl_X7_26 : q_FL RX7 26 7 2 := ⟨RX7, TX7, 11, q_ok7, by decide, rfl, Or.inl (List.mem_of_getElem? (i := 195) (by decide +kernel))⟩
set_option maxRecDepth 100000 in
theorem ff_X7_26 : q_FF RX7 26 7 2 := ⟨RX7, TX7, 11, q_ok7, by decide, rfl, rfl, rfl, List.mem_of_getElem? (i := 195) (by decide +kernel)⟩
set_option maxRecDepth 100000 in
theorem fl_X7_33 : q_FL RX7 33 7 3 := ⟨RX7, TX7, 11, q_ok7, by decide, rfl, Or.inl (List.mem_of_getElem? (i := 196) (by decide +kernel))⟩
set_option maxRecDepth 100000 in
theorem ff_X7_33 : q_FF RX7 33 7 3 := ⟨RX7, TX7, 11, q_ok7, by decide, rfl, rfl, rfl, List.mem_of_getElem? (i := 196) (by decide +kernel)⟩
set_option maxRecDepth 100000 in
theorem fl_X7_155 : q_FL RX7 155 7 4 := ⟨RX7, TX7, 11, q_ok7, by decide, rfl, Or.inl (List.mem_of_getElem? (i := 197) (by decide +kernel))⟩
theorem fw_X7_155 : q_FW RX7 155 7 4 := ⟨RX7, TX7, 11, q_ok7, by decide, rfl, rfl, (by obtain ⟨C, T, N, o1, o2, o3, o4⟩ := fl_X7_155; have e := Option.some.inj (o1.1.symm.trans q_ok7.1); cases e; exact o4)⟩
set_option maxRecDepth 100000 in
theorem fl_X7_203 : q_FL RX7 203 7 5 := ⟨RX7, TX7, 11, q_ok7, by decide, rfl, Or.inl (List.mem_of_getElem? (i := 198) (by decide +kernel))⟩
theorem fw_X7_203 : q_FW RX7 203 7 5 := ⟨RX7, TX7, 11, q_ok7, by decide, rfl, rfl, (by obtain ⟨C, T, N, o1, o2, o3, o4⟩ := fl_X7_203; have e := Option.some.inj (o1.1.symm.trans q_ok7.1); cases e; exact o4)⟩
set_option maxRecDepth 100000 in
theorem fl_X7_37 : q_FL RX7 37 7 6 := ⟨RX7, TX7, 11, q_ok7, by decide, rfl, Or.inl (List.mem_of_getElem? (i := 199) (by decide +kernel))⟩
set_option maxRecDepth 100000 in
theorem ff_X7_37 : q_FF RX7 37 7 6 := ⟨RX7, TX7, 11, q_ok7, by decide, rfl, rfl, rfl, List.mem_of_getElem? (i := 199) (by decide +kernel)⟩
set_option maxRecDepth 100000 in
theorem fl_X7_220 : q_FL RX7 220 7 7 := ⟨RX7, TX7, 11, q_ok7, by decide, rfl, Or.inl (List.mem_of_getElem? (i := 200) (by decide +kernel))⟩
theorem fw_X7_220 : q_FW RX7 220 7 7 := ⟨RX7, TX7, 11, q_ok7, by decide, rfl, rfl, (by obtain ⟨C, T, N, o1, o2, o3, o4⟩ := fl_X7_220; have e := Option.some.inj (o1.1.symm.trans q_ok7.1); cases e; exact o4)⟩
set_option maxRecDepth 100000 in
theorem fl_X7_225 : q_FL RX7 225 7 8 := ⟨RX7, TX7, 11, q_ok7, by decide, rfl, Or.inl (List.mem_of_getElem? (i := 201) (by decide +kernel))⟩
theorem fw_X7_225 : q_FW RX7 225 7 8 := ⟨RX7, TX7, 11, q_ok7, by decide, rfl, rfl, (by obtain ⟨C, T, N, o1, o2, o3, o4⟩ := fl_X7_225; have e := Option.some.inj (o1.1.symm.trans q_ok7.1); cases e; exact o4)⟩
set_option maxRecDepth 100000 in
theorem fl_X7_41 : q_FL RX7 41 7 9 := ⟨RX7, TX7, 11, q_ok7, by decide, rfl, Or.inl (List.mem_of_getElem? (i := 202) (by decide +kernel))⟩
theorem fw_X7_41 : q_FW RX7 41 7 9 := ⟨RX7, TX7, 11, q_ok7, by decide, rfl, rfl, (by obtain ⟨C, T, N, o1, o2, o3, o4⟩ := fl_X7_41; have e := Option.some.inj (o1.1.symm.trans q_ok7.1); cases e; exact o4)⟩
set_option maxRecDepth 100000 in
theorem fl_X7_143 : q_FL RX7 143 7 10 := ⟨RX7, TX7, 11, q_ok7, by decide, rfl, Or.inl (List.mem_of_getElem? (i := 203) (by decide +kernel))⟩
theorem fw_X7_143 : q_FW RX7 143 7 10 := ⟨RX7, TX7, 11, q_ok7, by decide, rfl, rfl, (by obtain ⟨C, T, N, o1, o2, o3, o4⟩ := fl_X7_143; have e := Option.some.inj (o1.1.symm.trans q_ok7.1); cases e; exact o4)⟩
set_option maxRecDepth 100000 in
theorem cw_L_13 : q_CV RL 13 7 yX7_terms cX7_terms 6 (some .int) 4 := ⟨⟨TX7, 11, q_ok7⟩, Or.inl (List.mem_of_getElem? (i := 227) (by decide +kernel)), List.mem_of_getElem? (i := 228) (by decide +kernel), List.mem_of_getElem? (i := 229) (by decide +kernel), List.mem_of_getElem? (i := 230) (by decide +kernel), List.mem_of_getElem? (i := 70) (by decide +kernel), ⟨by decide +kernel, by decide +kernel, by decide +kernel⟩⟩
set_option maxRecDepth 100000 in
theorem kw_X7_45 : Cond.constantLong RX7 45 (4) ∈ lw_tbl := List.mem_of_getElem? (i := 231) (by decide +kernel)
set_option maxRecDepth 100000 in
theorem cw_X7_47 : q_CS RX7 47 yX7_isWithin cX7_isWithin 6 (some .boolean) 3 := ⟨Or.inl (List.mem_of_getElem? (i := 232) (by decide +kernel)), List.mem_of_getElem? (i := 233) (by decide +kernel), List.mem_of_getElem? (i := 234) (by decide +kernel), List.mem_of_getElem? (i := 70) (by decide +kernel), ⟨by decide +kernel, by decide +kernel, by decide +kernel⟩⟩
set_option maxRecDepth 100000 in
theorem kw_X7_51 : Cond.constantLong RX7 51 (1000) ∈ lw_tbl := List.mem_of_getElem? (i := 235) (by decide +kernel)
set_option maxRecDepth 100000 in
theorem kw_X7_53 : Cond.constantLong RX7 53 (20) ∈ lw_tbl := List.mem_of_getElem? (i := 236) (by decide +kernel)
set_option maxRecDepth 100000 in
theorem kw_X7_55 : Cond.constantLong RX7 55 (9) ∈ lw_tbl := List.mem_of_getElem? (i := 237) (by decide +kernel)
set_option maxRecDepth 100000 in
theorem cw_L_18 : q_CV RL 18 7 yX7_cell cX7_cell 6 (some .int) 4 := ⟨⟨TX7, 11, q_ok7⟩, Or.inl (List.mem_of_getElem? (i := 238) (by decide +kernel)), List.mem_of_getElem? (i := 239) (by decide +kernel), List.mem_of_getElem? (i := 240) (by decide +kernel), List.mem_of_getElem? (i := 241) (by decide +kernel), List.mem_of_getElem? (i := 70) (by decide +kernel), ⟨by decide +kernel, by decide +kernel, by decide +kernel⟩⟩
set_option maxRecDepth 100000 in
theorem kw_X7_69 : Cond.constantLong RX7 69 (100) ∈ lw_tbl := List.mem_of_getElem? (i := 242) (by decide +kernel)
set_option maxRecDepth 100000 in
theorem cw_X7_71 : q_CS RX7 71 yX7_isGateway cX7_isGateway 1 (some .boolean) 1 := ⟨Or.inl (List.mem_of_getElem? (i := 243) (by decide +kernel)), List.mem_of_getElem? (i := 244) (by decide +kernel), List.mem_of_getElem? (i := 245) (by decide +kernel), List.mem_of_getElem? (i := 70) (by decide +kernel), ⟨by decide +kernel, by decide +kernel, by decide +kernel⟩⟩
set_option maxRecDepth 100000 in
theorem kw_X7_97 : Cond.constantLong RX7 97 (2) ∈ lw_tbl := List.mem_of_getElem? (i := 246) (by decide +kernel)
set_option maxRecDepth 100000 in
theorem kl_X7_82 : Cond.classLink RX7 82 RX0 ∈ lw_tbl := List.mem_of_getElem? (i := 247) (by decide +kernel)
set_option maxRecDepth 100000 in
theorem in_X0 : Cond.instantiable RX0 16 ∈ lw_tbl := List.mem_of_getElem? (i := 248) (by decide +kernel)
set_option maxRecDepth 100000 in
theorem cw_X7_84 : q_CI RX7 84 yX0_init cX0_init 5 4 := ⟨Or.inr ⟨"HopBeams", List.mem_of_getElem? (i := 249) (by decide +kernel)⟩, rfl, List.mem_of_getElem? (i := 250) (by decide +kernel), List.mem_of_getElem? (i := 251) (by decide +kernel), List.mem_of_getElem? (i := 76) (by decide +kernel), ⟨by decide +kernel, by decide +kernel, by decide +kernel⟩⟩
set_option maxRecDepth 100000 in
theorem wl_X0_3 : Cond.methodLink RX0 3 objectInit ∈ lw_tbl := List.mem_of_getElem? (i := 252) (by decide +kernel)
set_option maxRecDepth 100000 in
theorem fl_X0_15 : q_FL RX0 15 0 0 := ⟨RX0, TX0, 16, q_ok0, by decide, rfl, Or.inl (List.mem_of_getElem? (i := 253) (by decide +kernel))⟩
set_option maxRecDepth 100000 in
theorem ff_X0_15 : q_FF RX0 15 0 0 := ⟨RX0, TX0, 16, q_ok0, by decide, rfl, rfl, rfl, List.mem_of_getElem? (i := 253) (by decide +kernel)⟩
set_option maxRecDepth 100000 in
theorem fl_X0_19 : q_FL RX0 19 0 1 := ⟨RX0, TX0, 16, q_ok0, by decide, rfl, Or.inl (List.mem_of_getElem? (i := 254) (by decide +kernel))⟩
set_option maxRecDepth 100000 in
theorem ff_X0_19 : q_FF RX0 19 0 1 := ⟨RX0, TX0, 16, q_ok0, by decide, rfl, rfl, rfl, List.mem_of_getElem? (i := 254) (by decide +kernel)⟩
set_option maxRecDepth 100000 in
theorem fl_X0_22 : q_FL RX0 22 0 2 := ⟨RX0, TX0, 16, q_ok0, by decide, rfl, Or.inl (List.mem_of_getElem? (i := 255) (by decide +kernel))⟩
set_option maxRecDepth 100000 in
theorem ff_X0_22 : q_FF RX0 22 0 2 := ⟨RX0, TX0, 16, q_ok0, by decide, rfl, rfl, rfl, List.mem_of_getElem? (i := 255) (by decide +kernel)⟩
set_option maxRecDepth 100000 in
theorem fl_X0_25 : q_FL RX0 25 0 3 := ⟨RX0, TX0, 16, q_ok0, by decide, rfl, Or.inl (List.mem_of_getElem? (i := 256) (by decide +kernel))⟩
theorem fw_X0_25 : q_FW RX0 25 0 3 := ⟨RX0, TX0, 16, q_ok0, by decide, rfl, rfl, (by obtain ⟨C, T, N, o1, o2, o3, o4⟩ := fl_X0_25; have e := Option.some.inj (o1.1.symm.trans q_ok0.1); cases e; exact o4)⟩
set_option maxRecDepth 100000 in
theorem fl_X2_57 : q_FL RX2 57 0 3 := ⟨RX0, TX0, 16, q_ok0, by decide, rfl, Or.inr ⟨"HopBeams", List.mem_of_getElem? (i := 257) (by decide +kernel)⟩⟩
theorem fw_X2_57 : q_FW RX2 57 0 3 := ⟨RX0, TX0, 16, q_ok0, by decide, rfl, rfl, (by obtain ⟨C, T, N, o1, o2, o3, o4⟩ := fl_X2_57; have e := Option.some.inj (o1.1.symm.trans q_ok0.1); cases e; exact o4)⟩
set_option maxRecDepth 100000 in
theorem fl_X7_111 : q_FL RX7 111 0 3 := ⟨RX0, TX0, 16, q_ok0, by decide, rfl, Or.inr ⟨"HopBeams", List.mem_of_getElem? (i := 258) (by decide +kernel)⟩⟩
theorem fw_X7_111 : q_FW RX7 111 0 3 := ⟨RX0, TX0, 16, q_ok0, by decide, rfl, rfl, (by obtain ⟨C, T, N, o1, o2, o3, o4⟩ := fl_X7_111; have e := Option.some.inj (o1.1.symm.trans q_ok0.1); cases e; exact o4)⟩
set_option maxRecDepth 100000 in
theorem fl_X0_28 : q_FL RX0 28 0 4 := ⟨RX0, TX0, 16, q_ok0, by decide, rfl, Or.inl (List.mem_of_getElem? (i := 259) (by decide +kernel))⟩
theorem fw_X0_28 : q_FW RX0 28 0 4 := ⟨RX0, TX0, 16, q_ok0, by decide, rfl, rfl, (by obtain ⟨C, T, N, o1, o2, o3, o4⟩ := fl_X0_28; have e := Option.some.inj (o1.1.symm.trans q_ok0.1); cases e; exact o4)⟩
set_option maxRecDepth 100000 in
theorem fl_X7_99 : q_FL RX7 99 0 4 := ⟨RX0, TX0, 16, q_ok0, by decide, rfl, Or.inr ⟨"HopBeams", List.mem_of_getElem? (i := 260) (by decide +kernel)⟩⟩
theorem fw_X7_99 : q_FW RX7 99 0 4 := ⟨RX0, TX0, 16, q_ok0, by decide, rfl, rfl, (by obtain ⟨C, T, N, o1, o2, o3, o4⟩ := fl_X7_99; have e := Option.some.inj (o1.1.symm.trans q_ok0.1); cases e; exact o4)⟩
set_option maxRecDepth 100000 in
theorem fl_X2_68 : q_FL RX2 68 0 5 := ⟨RX0, TX0, 16, q_ok0, by decide, rfl, Or.inr ⟨"HopBeams", List.mem_of_getElem? (i := 261) (by decide +kernel)⟩⟩
theorem fw_X2_68 : q_FW RX2 68 0 5 := ⟨RX0, TX0, 16, q_ok0, by decide, rfl, rfl, (by obtain ⟨C, T, N, o1, o2, o3, o4⟩ := fl_X2_68; have e := Option.some.inj (o1.1.symm.trans q_ok0.1); cases e; exact o4)⟩
set_option maxRecDepth 100000 in
theorem fl_X7_125 : q_FL RX7 125 0 5 := ⟨RX0, TX0, 16, q_ok0, by decide, rfl, Or.inr ⟨"HopBeams", List.mem_of_getElem? (i := 262) (by decide +kernel)⟩⟩
theorem fw_X7_125 : q_FW RX7 125 0 5 := ⟨RX0, TX0, 16, q_ok0, by decide, rfl, rfl, (by obtain ⟨C, T, N, o1, o2, o3, o4⟩ := fl_X7_125; have e := Option.some.inj (o1.1.symm.trans q_ok0.1); cases e; exact o4)⟩
set_option maxRecDepth 100000 in
theorem fl_X0_75 : q_FL RX0 75 0 5 := ⟨RX0, TX0, 16, q_ok0, by decide, rfl, Or.inl (List.mem_of_getElem? (i := 263) (by decide +kernel))⟩
theorem fw_X0_75 : q_FW RX0 75 0 5 := ⟨RX0, TX0, 16, q_ok0, by decide, rfl, rfl, (by obtain ⟨C, T, N, o1, o2, o3, o4⟩ := fl_X0_75; have e := Option.some.inj (o1.1.symm.trans q_ok0.1); cases e; exact o4)⟩
set_option maxRecDepth 100000 in
theorem fl_X0_54 : q_FL RX0 54 0 6 := ⟨RX0, TX0, 16, q_ok0, by decide, rfl, Or.inl (List.mem_of_getElem? (i := 264) (by decide +kernel))⟩
theorem fw_X0_54 : q_FW RX0 54 0 6 := ⟨RX0, TX0, 16, q_ok0, by decide, rfl, rfl, (by obtain ⟨C, T, N, o1, o2, o3, o4⟩ := fl_X0_54; have e := Option.some.inj (o1.1.symm.trans q_ok0.1); cases e; exact o4)⟩
set_option maxRecDepth 100000 in
theorem fl_X7_128 : q_FL RX7 128 0 6 := ⟨RX0, TX0, 16, q_ok0, by decide, rfl, Or.inr ⟨"HopBeams", List.mem_of_getElem? (i := 265) (by decide +kernel)⟩⟩
theorem fw_X7_128 : q_FW RX7 128 0 6 := ⟨RX0, TX0, 16, q_ok0, by decide, rfl, rfl, (by obtain ⟨C, T, N, o1, o2, o3, o4⟩ := fl_X7_128; have e := Option.some.inj (o1.1.symm.trans q_ok0.1); cases e; exact o4)⟩
set_option maxRecDepth 100000 in
theorem fl_X2_54 : q_FL RX2 54 0 7 := ⟨RX0, TX0, 16, q_ok0, by decide, rfl, Or.inr ⟨"HopBeams", List.mem_of_getElem? (i := 266) (by decide +kernel)⟩⟩
theorem fw_X2_54 : q_FW RX2 54 0 7 := ⟨RX0, TX0, 16, q_ok0, by decide, rfl, rfl, (by obtain ⟨C, T, N, o1, o2, o3, o4⟩ := fl_X2_54; have e := Option.some.inj (o1.1.symm.trans q_ok0.1); cases e; exact o4)⟩
set_option maxRecDepth 100000 in
theorem fl_X7_114 : q_FL RX7 114 0 7 := ⟨RX0, TX0, 16, q_ok0, by decide, rfl, Or.inr ⟨"HopBeams", List.mem_of_getElem? (i := 267) (by decide +kernel)⟩⟩
theorem fw_X7_114 : q_FW RX7 114 0 7 := ⟨RX0, TX0, 16, q_ok0, by decide, rfl, rfl, (by obtain ⟨C, T, N, o1, o2, o3, o4⟩ := fl_X7_114; have e := Option.some.inj (o1.1.symm.trans q_ok0.1); cases e; exact o4)⟩
set_option maxRecDepth 100000 in
theorem fl_X0_72 : q_FL RX0 72 0 7 := ⟨RX0, TX0, 16, q_ok0, by decide, rfl, Or.inl (List.mem_of_getElem? (i := 268) (by decide +kernel))⟩
theorem fw_X0_72 : q_FW RX0 72 0 7 := ⟨RX0, TX0, 16, q_ok0, by decide, rfl, rfl, (by obtain ⟨C, T, N, o1, o2, o3, o4⟩ := fl_X0_72; have e := Option.some.inj (o1.1.symm.trans q_ok0.1); cases e; exact o4)⟩
set_option maxRecDepth 100000 in
theorem fl_X7_90 : q_FL RX7 90 0 8 := ⟨RX0, TX0, 16, q_ok0, by decide, rfl, Or.inr ⟨"HopBeams", List.mem_of_getElem? (i := 269) (by decide +kernel)⟩⟩
theorem fw_X7_90 : q_FW RX7 90 0 8 := ⟨RX0, TX0, 16, q_ok0, by decide, rfl, rfl, (by obtain ⟨C, T, N, o1, o2, o3, o4⟩ := fl_X7_90; have e := Option.some.inj (o1.1.symm.trans q_ok0.1); cases e; exact o4)⟩
set_option maxRecDepth 100000 in
theorem fl_X2_51 : q_FL RX2 51 0 8 := ⟨RX0, TX0, 16, q_ok0, by decide, rfl, Or.inr ⟨"HopBeams", List.mem_of_getElem? (i := 270) (by decide +kernel)⟩⟩
theorem fw_X2_51 : q_FW RX2 51 0 8 := ⟨RX0, TX0, 16, q_ok0, by decide, rfl, rfl, (by obtain ⟨C, T, N, o1, o2, o3, o4⟩ := fl_X2_51; have e := Option.some.inj (o1.1.symm.trans q_ok0.1); cases e; exact o4)⟩
set_option maxRecDepth 100000 in
theorem fl_X0_81 : q_FL RX0 81 0 8 := ⟨RX0, TX0, 16, q_ok0, by decide, rfl, Or.inl (List.mem_of_getElem? (i := 271) (by decide +kernel))⟩
theorem fw_X0_81 : q_FW RX0 81 0 8 := ⟨RX0, TX0, 16, q_ok0, by decide, rfl, rfl, (by obtain ⟨C, T, N, o1, o2, o3, o4⟩ := fl_X0_81; have e := Option.some.inj (o1.1.symm.trans q_ok0.1); cases e; exact o4)⟩
set_option maxRecDepth 100000 in
theorem fl_X0_9 : q_FL RX0 9 0 9 := ⟨RX0, TX0, 16, q_ok0, by decide, rfl, Or.inl (List.mem_of_getElem? (i := 272) (by decide +kernel))⟩
set_option maxRecDepth 100000 in
theorem ff_X0_9 : q_FF RX0 9 0 9 := ⟨RX0, TX0, 16, q_ok0, by decide, rfl, rfl, rfl, List.mem_of_getElem? (i := 272) (by decide +kernel)⟩
set_option maxRecDepth 100000 in
theorem fl_X0_31 : q_FL RX0 31 0 10 := ⟨RX0, TX0, 16, q_ok0, by decide, rfl, Or.inl (List.mem_of_getElem? (i := 273) (by decide +kernel))⟩
theorem fw_X0_31 : q_FW RX0 31 0 10 := ⟨RX0, TX0, 16, q_ok0, by decide, rfl, rfl, (by obtain ⟨C, T, N, o1, o2, o3, o4⟩ := fl_X0_31; have e := Option.some.inj (o1.1.symm.trans q_ok0.1); cases e; exact o4)⟩
set_option maxRecDepth 100000 in
theorem fl_X0_35 : q_FL RX0 35 0 11 := ⟨RX0, TX0, 16, q_ok0, by decide, rfl, Or.inl (List.mem_of_getElem? (i := 274) (by decide +kernel))⟩
theorem fw_X0_35 : q_FW RX0 35 0 11 := ⟨RX0, TX0, 16, q_ok0, by decide, rfl, rfl, (by obtain ⟨C, T, N, o1, o2, o3, o4⟩ := fl_X0_35; have e := Option.some.inj (o1.1.symm.trans q_ok0.1); cases e; exact o4)⟩
set_option maxRecDepth 100000 in
theorem fl_X0_38 : q_FL RX0 38 0 12 := ⟨RX0, TX0, 16, q_ok0, by decide, rfl, Or.inl (List.mem_of_getElem? (i := 275) (by decide +kernel))⟩
theorem fw_X0_38 : q_FW RX0 38 0 12 := ⟨RX0, TX0, 16, q_ok0, by decide, rfl, rfl, (by obtain ⟨C, T, N, o1, o2, o3, o4⟩ := fl_X0_38; have e := Option.some.inj (o1.1.symm.trans q_ok0.1); cases e; exact o4)⟩
set_option maxRecDepth 100000 in
theorem fl_X0_57 : q_FL RX0 57 0 13 := ⟨RX0, TX0, 16, q_ok0, by decide, rfl, Or.inl (List.mem_of_getElem? (i := 276) (by decide +kernel))⟩
theorem fw_X0_57 : q_FW RX0 57 0 13 := ⟨RX0, TX0, 16, q_ok0, by decide, rfl, rfl, (by obtain ⟨C, T, N, o1, o2, o3, o4⟩ := fl_X0_57; have e := Option.some.inj (o1.1.symm.trans q_ok0.1); cases e; exact o4)⟩
set_option maxRecDepth 100000 in
theorem fl_X0_63 : q_FL RX0 63 0 14 := ⟨RX0, TX0, 16, q_ok0, by decide, rfl, Or.inl (List.mem_of_getElem? (i := 277) (by decide +kernel))⟩
theorem fw_X0_63 : q_FW RX0 63 0 14 := ⟨RX0, TX0, 16, q_ok0, by decide, rfl, rfl, (by obtain ⟨C, T, N, o1, o2, o3, o4⟩ := fl_X0_63; have e := Option.some.inj (o1.1.symm.trans q_ok0.1); cases e; exact o4)⟩
set_option maxRecDepth 100000 in
theorem fl_X0_60 : q_FL RX0 60 0 15 := ⟨RX0, TX0, 16, q_ok0, by decide, rfl, Or.inl (List.mem_of_getElem? (i := 278) (by decide +kernel))⟩
theorem fw_X0_60 : q_FW RX0 60 0 15 := ⟨RX0, TX0, 16, q_ok0, by decide, rfl, rfl, (by obtain ⟨C, T, N, o1, o2, o3, o4⟩ := fl_X0_60; have e := Option.some.inj (o1.1.symm.trans q_ok0.1); cases e; exact o4)⟩
set_option maxRecDepth 100000 in
theorem cw_L_22 : q_CV RL 22 7 yX7_forbid cX7_forbid 4 (some .boolean) 3 := ⟨⟨TX7, 11, q_ok7⟩, Or.inl (List.mem_of_getElem? (i := 312) (by decide +kernel)), List.mem_of_getElem? (i := 313) (by decide +kernel), List.mem_of_getElem? (i := 314) (by decide +kernel), List.mem_of_getElem? (i := 315) (by decide +kernel), List.mem_of_getElem? (i := 70) (by decide +kernel), ⟨by decide +kernel, by decide +kernel, by decide +kernel⟩⟩
set_option maxRecDepth 100000 in
theorem cw_X7_87 : q_CV RX7 87 2 yX2_hasCell cX2_hasCell 2 (some .boolean) 1 := ⟨⟨TX2, 8, q_ok2⟩, Or.inr ⟨"HopBeams", List.mem_of_getElem? (i := 316) (by decide +kernel)⟩, List.mem_of_getElem? (i := 318) (by decide +kernel), List.mem_of_getElem? (i := 0) (by decide +kernel), List.mem_of_getElem? (i := 319) (by decide +kernel), List.mem_of_getElem? (i := 71) (by decide +kernel), ⟨by decide +kernel, by decide +kernel, by decide +kernel⟩⟩
set_option maxRecDepth 100000 in
theorem cw_X7_93 : q_CS RX7 93 yX7_contains cX7_contains 2 (some .boolean) 2 := ⟨Or.inl (List.mem_of_getElem? (i := 320) (by decide +kernel)), List.mem_of_getElem? (i := 321) (by decide +kernel), List.mem_of_getElem? (i := 322) (by decide +kernel), List.mem_of_getElem? (i := 70) (by decide +kernel), ⟨by decide +kernel, by decide +kernel, by decide +kernel⟩⟩
set_option maxRecDepth 100000 in
theorem cw_L_27 : q_CV RL 27 7 yX7_rain cX7_rain 4 (some .int) 2 := ⟨⟨TX7, 11, q_ok7⟩, Or.inl (List.mem_of_getElem? (i := 323) (by decide +kernel)), List.mem_of_getElem? (i := 324) (by decide +kernel), List.mem_of_getElem? (i := 325) (by decide +kernel), List.mem_of_getElem? (i := 326) (by decide +kernel), List.mem_of_getElem? (i := 70) (by decide +kernel), ⟨by decide +kernel, by decide +kernel, by decide +kernel⟩⟩
set_option maxRecDepth 100000 in
theorem cw_L_32 : q_CV RL 32 7 yX7_gateway cX7_gateway 4 (some .int) 3 := ⟨⟨TX7, 11, q_ok7⟩, Or.inl (List.mem_of_getElem? (i := 327) (by decide +kernel)), List.mem_of_getElem? (i := 328) (by decide +kernel), List.mem_of_getElem? (i := 329) (by decide +kernel), List.mem_of_getElem? (i := 330) (by decide +kernel), List.mem_of_getElem? (i := 70) (by decide +kernel), ⟨by decide +kernel, by decide +kernel, by decide +kernel⟩⟩
set_option maxRecDepth 100000 in
theorem kw_X7_102 : Cond.constantLong RX7 102 (10) ∈ lw_tbl := List.mem_of_getElem? (i := 331) (by decide +kernel)
set_option maxRecDepth 100000 in
theorem cw_L_37 : q_CV RL 37 7 yX7_swap cX7_swap 3 (some .int) 2 := ⟨⟨TX7, 11, q_ok7⟩, Or.inl (List.mem_of_getElem? (i := 332) (by decide +kernel)), List.mem_of_getElem? (i := 333) (by decide +kernel), List.mem_of_getElem? (i := 334) (by decide +kernel), List.mem_of_getElem? (i := 335) (by decide +kernel), List.mem_of_getElem? (i := 70) (by decide +kernel), ⟨by decide +kernel, by decide +kernel, by decide +kernel⟩⟩
set_option maxRecDepth 100000 in
theorem cw_L_41 : q_CV RL 41 7 yX7_needs cX7_needs 6 (some .int) 1 := ⟨⟨TX7, 11, q_ok7⟩, Or.inl (List.mem_of_getElem? (i := 336) (by decide +kernel)), List.mem_of_getElem? (i := 337) (by decide +kernel), List.mem_of_getElem? (i := 338) (by decide +kernel), List.mem_of_getElem? (i := 339) (by decide +kernel), List.mem_of_getElem? (i := 70) (by decide +kernel), ⟨by decide +kernel, by decide +kernel, by decide +kernel⟩⟩
set_option maxRecDepth 100000 in
theorem cw_X7_117 : q_CV RX7 117 5 yX5_refusal cX5_refusal 4 (some .int) 3 := ⟨⟨TX5, 3, q_ok5⟩, Or.inr ⟨"HopBeams", List.mem_of_getElem? (i := 340) (by decide +kernel)⟩, List.mem_of_getElem? (i := 342) (by decide +kernel), List.mem_of_getElem? (i := 1) (by decide +kernel), List.mem_of_getElem? (i := 343) (by decide +kernel), List.mem_of_getElem? (i := 73) (by decide +kernel), ⟨by decide +kernel, by decide +kernel, by decide +kernel⟩⟩
set_option maxRecDepth 100000 in
theorem cw_X5_23 : q_CS RX5 23 yX5_isPlace cX5_isPlace 1 (some .boolean) 1 := ⟨Or.inl (List.mem_of_getElem? (i := 344) (by decide +kernel)), List.mem_of_getElem? (i := 345) (by decide +kernel), List.mem_of_getElem? (i := 346) (by decide +kernel), List.mem_of_getElem? (i := 73) (by decide +kernel), ⟨by decide +kernel, by decide +kernel, by decide +kernel⟩⟩
set_option maxRecDepth 100000 in
theorem cw_X5_31 : q_CV RX5 31 5 yX5_areWithin cX5_areWithin 5 (some .boolean) 3 := ⟨⟨TX5, 3, q_ok5⟩, Or.inl (List.mem_of_getElem? (i := 347) (by decide +kernel)), List.mem_of_getElem? (i := 349) (by decide +kernel), List.mem_of_getElem? (i := 2) (by decide +kernel), List.mem_of_getElem? (i := 350) (by decide +kernel), List.mem_of_getElem? (i := 73) (by decide +kernel), ⟨by decide +kernel, by decide +kernel, by decide +kernel⟩⟩
set_option maxRecDepth 100000 in
theorem cw_X5_35 : q_CV RX5 35 5 yX5_number cX5_number 3 (some .long) 2 := ⟨⟨TX5, 3, q_ok5⟩, Or.inl (List.mem_of_getElem? (i := 351) (by decide +kernel)), List.mem_of_getElem? (i := 353) (by decide +kernel), List.mem_of_getElem? (i := 3) (by decide +kernel), List.mem_of_getElem? (i := 354) (by decide +kernel), List.mem_of_getElem? (i := 73) (by decide +kernel), ⟨by decide +kernel, by decide +kernel, by decide +kernel⟩⟩
set_option maxRecDepth 100000 in
theorem cw_X5_27 : q_CV RX5 27 5 yX5_lengthOf cX5_lengthOf 2 (some .int) 1 := ⟨⟨TX5, 3, q_ok5⟩, Or.inl (List.mem_of_getElem? (i := 355) (by decide +kernel)), List.mem_of_getElem? (i := 357) (by decide +kernel), List.mem_of_getElem? (i := 4) (by decide +kernel), List.mem_of_getElem? (i := 358) (by decide +kernel), List.mem_of_getElem? (i := 73) (by decide +kernel), ⟨by decide +kernel, by decide +kernel, by decide +kernel⟩⟩
set_option maxRecDepth 100000 in
theorem cw_X5_39 : q_CS RX5 39 yX7_isWithin cX7_isWithin 6 (some .boolean) 3 := ⟨Or.inr ⟨"HopBeams", List.mem_of_getElem? (i := 359) (by decide +kernel)⟩, List.mem_of_getElem? (i := 233) (by decide +kernel), List.mem_of_getElem? (i := 234) (by decide +kernel), List.mem_of_getElem? (i := 70) (by decide +kernel), ⟨by decide +kernel, by decide +kernel, by decide +kernel⟩⟩
set_option maxRecDepth 100000 in
theorem cw_X7_121 : q_CV RX7 121 5 yX5_number cX5_number 3 (some .long) 2 := ⟨⟨TX5, 3, q_ok5⟩, Or.inr ⟨"HopBeams", List.mem_of_getElem? (i := 360) (by decide +kernel)⟩, List.mem_of_getElem? (i := 353) (by decide +kernel), List.mem_of_getElem? (i := 3) (by decide +kernel), List.mem_of_getElem? (i := 354) (by decide +kernel), List.mem_of_getElem? (i := 73) (by decide +kernel), ⟨by decide +kernel, by decide +kernel, by decide +kernel⟩⟩
set_option maxRecDepth 100000 in
theorem cw_L_46 : q_CV RL 46 7 yX7_asks cX7_asks 6 (some .int) 1 := ⟨⟨TX7, 11, q_ok7⟩, Or.inl (List.mem_of_getElem? (i := 361) (by decide +kernel)), List.mem_of_getElem? (i := 362) (by decide +kernel), List.mem_of_getElem? (i := 363) (by decide +kernel), List.mem_of_getElem? (i := 364) (by decide +kernel), List.mem_of_getElem? (i := 70) (by decide +kernel), ⟨by decide +kernel, by decide +kernel, by decide +kernel⟩⟩
set_option maxRecDepth 100000 in
theorem cw_L_50 : q_CV RL 50 7 yX7_legal cX7_legal 2 (some .int) 1 := ⟨⟨TX7, 11, q_ok7⟩, Or.inl (List.mem_of_getElem? (i := 365) (by decide +kernel)), List.mem_of_getElem? (i := 366) (by decide +kernel), List.mem_of_getElem? (i := 367) (by decide +kernel), List.mem_of_getElem? (i := 368) (by decide +kernel), List.mem_of_getElem? (i := 70) (by decide +kernel), ⟨by decide +kernel, by decide +kernel, by decide +kernel⟩⟩
set_option maxRecDepth 100000 in
theorem cw_X7_131 : q_CV RX7 131 2 yX2_allCells cX2_allCells 1 (some .int) 0 := ⟨⟨TX2, 8, q_ok2⟩, Or.inr ⟨"HopBeams", List.mem_of_getElem? (i := 369) (by decide +kernel)⟩, List.mem_of_getElem? (i := 371) (by decide +kernel), List.mem_of_getElem? (i := 5) (by decide +kernel), List.mem_of_getElem? (i := 372) (by decide +kernel), List.mem_of_getElem? (i := 71) (by decide +kernel), ⟨by decide +kernel, by decide +kernel, by decide +kernel⟩⟩
set_option maxRecDepth 100000 in
theorem cw_X7_135 : q_CV RX7 135 2 yX2_allows cX2_allows 6 (some .boolean) 1 := ⟨⟨TX2, 8, q_ok2⟩, Or.inr ⟨"HopBeams", List.mem_of_getElem? (i := 373) (by decide +kernel)⟩, List.mem_of_getElem? (i := 375) (by decide +kernel), List.mem_of_getElem? (i := 6) (by decide +kernel), List.mem_of_getElem? (i := 376) (by decide +kernel), List.mem_of_getElem? (i := 71) (by decide +kernel), ⟨by decide +kernel, by decide +kernel, by decide +kernel⟩⟩
set_option maxRecDepth 100000 in
theorem cw_X2_41 : q_CS RX2 41 yJ6_bitCount_0f7a4 cJ6_bitCount_0f7a4 1 (some .int) 1 := ⟨Or.inl (List.mem_of_getElem? (i := 377) (by decide +kernel)), List.mem_of_getElem? (i := 378) (by decide +kernel), List.mem_of_getElem? (i := 379) (by decide +kernel), List.mem_of_getElem? (i := 77) (by decide +kernel), ⟨by decide +kernel, by decide +kernel, by decide +kernel⟩⟩
set_option maxRecDepth 100000 in
theorem kw_J6_265 : Cond.constant RJ6 265 (1431655765) ∈ lw_tbl := List.mem_of_getElem? (i := 380) (by decide +kernel)
set_option maxRecDepth 100000 in
theorem kw_J6_266 : Cond.constant RJ6 266 (858993459) ∈ lw_tbl := List.mem_of_getElem? (i := 381) (by decide +kernel)
set_option maxRecDepth 100000 in
theorem kw_J6_267 : Cond.constant RJ6 267 (252645135) ∈ lw_tbl := List.mem_of_getElem? (i := 382) (by decide +kernel)
set_option maxRecDepth 100000 in
theorem cw_X2_47 : q_CS RX2 47 yX7_contains cX7_contains 2 (some .boolean) 2 := ⟨Or.inr ⟨"HopBeams", List.mem_of_getElem? (i := 383) (by decide +kernel)⟩, List.mem_of_getElem? (i := 321) (by decide +kernel), List.mem_of_getElem? (i := 322) (by decide +kernel), List.mem_of_getElem? (i := 70) (by decide +kernel), ⟨by decide +kernel, by decide +kernel, by decide +kernel⟩⟩
set_option maxRecDepth 100000 in
theorem cw_X2_60 : q_CV RX2 60 0 yX0_powerNow cX0_powerNow 1 (some .int) 0 := ⟨⟨TX0, 16, q_ok0⟩, Or.inr ⟨"HopBeams", List.mem_of_getElem? (i := 384) (by decide +kernel)⟩, List.mem_of_getElem? (i := 386) (by decide +kernel), List.mem_of_getElem? (i := 7) (by decide +kernel), List.mem_of_getElem? (i := 387) (by decide +kernel), List.mem_of_getElem? (i := 76) (by decide +kernel), ⟨by decide +kernel, by decide +kernel, by decide +kernel⟩⟩
set_option maxRecDepth 100000 in
theorem cw_X2_64 : q_CV RX2 64 2 yX2_haveRoom cX2_haveRoom 3 (some .boolean) 1 := ⟨⟨TX2, 8, q_ok2⟩, Or.inl (List.mem_of_getElem? (i := 388) (by decide +kernel)), List.mem_of_getElem? (i := 390) (by decide +kernel), List.mem_of_getElem? (i := 8) (by decide +kernel), List.mem_of_getElem? (i := 391) (by decide +kernel), List.mem_of_getElem? (i := 71) (by decide +kernel), ⟨by decide +kernel, by decide +kernel, by decide +kernel⟩⟩
set_option maxRecDepth 100000 in
theorem cw_L_54 : q_CV RL 54 7 yX7_sets cX7_sets 1 (some .int) 0 := ⟨⟨TX7, 11, q_ok7⟩, Or.inl (List.mem_of_getElem? (i := 392) (by decide +kernel)), List.mem_of_getElem? (i := 393) (by decide +kernel), List.mem_of_getElem? (i := 394) (by decide +kernel), List.mem_of_getElem? (i := 395) (by decide +kernel), List.mem_of_getElem? (i := 70) (by decide +kernel), ⟨by decide +kernel, by decide +kernel, by decide +kernel⟩⟩
set_option maxRecDepth 100000 in
theorem cw_X7_138 : q_CV RX7 138 3 yX3_find cX3_find 4 none 1 := ⟨⟨TX3, 4, q_ok3⟩, Or.inr ⟨"HopBeams", List.mem_of_getElem? (i := 396) (by decide +kernel)⟩, List.mem_of_getElem? (i := 398) (by decide +kernel), List.mem_of_getElem? (i := 9) (by decide +kernel), List.mem_of_getElem? (i := 399) (by decide +kernel), List.mem_of_getElem? (i := 72) (by decide +kernel), ⟨by decide +kernel, by decide +kernel, by decide +kernel⟩⟩
set_option maxRecDepth 100000 in
theorem cw_X3_26 : q_CV RX3 26 2 yX2_allCells cX2_allCells 1 (some .int) 0 := ⟨⟨TX2, 8, q_ok2⟩, Or.inr ⟨"HopBeams", List.mem_of_getElem? (i := 400) (by decide +kernel)⟩, List.mem_of_getElem? (i := 371) (by decide +kernel), List.mem_of_getElem? (i := 5) (by decide +kernel), List.mem_of_getElem? (i := 372) (by decide +kernel), List.mem_of_getElem? (i := 71) (by decide +kernel), ⟨by decide +kernel, by decide +kernel, by decide +kernel⟩⟩
set_option maxRecDepth 100000 in
theorem cw_X3_32 : q_CS RX3 32 yJ9_min_7cf53 cJ9_min_7cf53 2 (some .int) 2 := ⟨Or.inl (List.mem_of_getElem? (i := 401) (by decide +kernel)), List.mem_of_getElem? (i := 402) (by decide +kernel), List.mem_of_getElem? (i := 403) (by decide +kernel), List.mem_of_getElem? (i := 78) (by decide +kernel), ⟨by decide +kernel, by decide +kernel, by decide +kernel⟩⟩
set_option maxRecDepth 100000 in
theorem cw_X3_38 : q_CV RX3 38 2 yX2_allows cX2_allows 6 (some .boolean) 1 := ⟨⟨TX2, 8, q_ok2⟩, Or.inr ⟨"HopBeams", List.mem_of_getElem? (i := 404) (by decide +kernel)⟩, List.mem_of_getElem? (i := 375) (by decide +kernel), List.mem_of_getElem? (i := 6) (by decide +kernel), List.mem_of_getElem? (i := 376) (by decide +kernel), List.mem_of_getElem? (i := 71) (by decide +kernel), ⟨by decide +kernel, by decide +kernel, by decide +kernel⟩⟩
set_option maxRecDepth 100000 in
theorem cw_L_59 : q_CV RL 59 7 yX7_fewest cX7_fewest 4 (some .int) 0 := ⟨⟨TX7, 11, q_ok7⟩, Or.inl (List.mem_of_getElem? (i := 405) (by decide +kernel)), List.mem_of_getElem? (i := 406) (by decide +kernel), List.mem_of_getElem? (i := 407) (by decide +kernel), List.mem_of_getElem? (i := 408) (by decide +kernel), List.mem_of_getElem? (i := 70) (by decide +kernel), ⟨by decide +kernel, by decide +kernel, by decide +kernel⟩⟩
set_option maxRecDepth 100000 in
theorem cw_X7_146 : q_CV RX7 146 2 yX2_lacksAtFirst cX2_lacksAtFirst 4 (some .long) 0 := ⟨⟨TX2, 8, q_ok2⟩, Or.inr ⟨"HopBeams", List.mem_of_getElem? (i := 409) (by decide +kernel)⟩, List.mem_of_getElem? (i := 411) (by decide +kernel), List.mem_of_getElem? (i := 10) (by decide +kernel), List.mem_of_getElem? (i := 412) (by decide +kernel), List.mem_of_getElem? (i := 71) (by decide +kernel), ⟨by decide +kernel, by decide +kernel, by decide +kernel⟩⟩
set_option maxRecDepth 100000 in
theorem cw_X7_151 : q_CV RX7 151 2 yX2_canMeetNeeds cX2_canMeetNeeds 2 (some .boolean) 0 := ⟨⟨TX2, 8, q_ok2⟩, Or.inr ⟨"HopBeams", List.mem_of_getElem? (i := 413) (by decide +kernel)⟩, List.mem_of_getElem? (i := 415) (by decide +kernel), List.mem_of_getElem? (i := 11) (by decide +kernel), List.mem_of_getElem? (i := 416) (by decide +kernel), List.mem_of_getElem? (i := 71) (by decide +kernel), ⟨by decide +kernel, by decide +kernel, by decide +kernel⟩⟩
set_option maxRecDepth 100000 in
theorem cw_X2_71 : q_CV RX2 71 2 yX2_allows cX2_allows 6 (some .boolean) 1 := ⟨⟨TX2, 8, q_ok2⟩, Or.inl (List.mem_of_getElem? (i := 417) (by decide +kernel)), List.mem_of_getElem? (i := 375) (by decide +kernel), List.mem_of_getElem? (i := 6) (by decide +kernel), List.mem_of_getElem? (i := 376) (by decide +kernel), List.mem_of_getElem? (i := 71) (by decide +kernel), ⟨by decide +kernel, by decide +kernel, by decide +kernel⟩⟩
set_option maxRecDepth 100000 in
theorem kl_X7_159 : Cond.classLink RX7 159 RX4 ∈ lw_tbl := List.mem_of_getElem? (i := 418) (by decide +kernel)
set_option maxRecDepth 100000 in
theorem in_X4 : Cond.instantiable RX4 10 ∈ lw_tbl := List.mem_of_getElem? (i := 419) (by decide +kernel)
set_option maxRecDepth 100000 in
theorem cw_X7_161 : q_CI RX7 161 yX4_init cX4_init 1 0 := ⟨Or.inr ⟨"HopBeams", List.mem_of_getElem? (i := 420) (by decide +kernel)⟩, rfl, List.mem_of_getElem? (i := 421) (by decide +kernel), List.mem_of_getElem? (i := 422) (by decide +kernel), List.mem_of_getElem? (i := 79) (by decide +kernel), ⟨by decide +kernel, by decide +kernel, by decide +kernel⟩⟩
set_option maxRecDepth 100000 in
theorem wl_X4_3 : Cond.methodLink RX4 3 objectInit ∈ lw_tbl := List.mem_of_getElem? (i := 423) (by decide +kernel)
set_option maxRecDepth 100000 in
theorem fl_X4_9 : q_FL RX4 9 4 0 := ⟨RX4, TX4, 10, q_ok4, by decide, rfl, Or.inl (List.mem_of_getElem? (i := 424) (by decide +kernel))⟩
set_option maxRecDepth 100000 in
theorem ff_X4_9 : q_FF RX4 9 4 0 := ⟨RX4, TX4, 10, q_ok4, by decide, rfl, rfl, rfl, List.mem_of_getElem? (i := 424) (by decide +kernel)⟩
set_option maxRecDepth 100000 in
theorem fl_X4_15 : q_FL RX4 15 4 1 := ⟨RX4, TX4, 10, q_ok4, by decide, rfl, Or.inl (List.mem_of_getElem? (i := 425) (by decide +kernel))⟩
set_option maxRecDepth 100000 in
theorem ff_X4_15 : q_FF RX4 15 4 1 := ⟨RX4, TX4, 10, q_ok4, by decide, rfl, rfl, rfl, List.mem_of_getElem? (i := 425) (by decide +kernel)⟩
set_option maxRecDepth 100000 in
theorem fl_X4_43 : q_FL RX4 43 4 2 := ⟨RX4, TX4, 10, q_ok4, by decide, rfl, Or.inl (List.mem_of_getElem? (i := 426) (by decide +kernel))⟩
theorem fw_X4_43 : q_FW RX4 43 4 2 := ⟨RX4, TX4, 10, q_ok4, by decide, rfl, rfl, (by obtain ⟨C, T, N, o1, o2, o3, o4⟩ := fl_X4_43; have e := Option.some.inj (o1.1.symm.trans q_ok4.1); cases e; exact o4)⟩
set_option maxRecDepth 100000 in
theorem fl_X7_166 : q_FL RX7 166 4 2 := ⟨RX4, TX4, 10, q_ok4, by decide, rfl, Or.inr ⟨"HopBeams", List.mem_of_getElem? (i := 427) (by decide +kernel)⟩⟩
theorem fw_X7_166 : q_FW RX7 166 4 2 := ⟨RX4, TX4, 10, q_ok4, by decide, rfl, rfl, (by obtain ⟨C, T, N, o1, o2, o3, o4⟩ := fl_X7_166; have e := Option.some.inj (o1.1.symm.trans q_ok4.1); cases e; exact o4)⟩
set_option maxRecDepth 100000 in
theorem fl_X4_19 : q_FL RX4 19 4 3 := ⟨RX4, TX4, 10, q_ok4, by decide, rfl, Or.inl (List.mem_of_getElem? (i := 428) (by decide +kernel))⟩
set_option maxRecDepth 100000 in
theorem ff_X4_19 : q_FF RX4 19 4 3 := ⟨RX4, TX4, 10, q_ok4, by decide, rfl, rfl, rfl, List.mem_of_getElem? (i := 428) (by decide +kernel)⟩
set_option maxRecDepth 100000 in
theorem fl_X4_22 : q_FL RX4 22 4 4 := ⟨RX4, TX4, 10, q_ok4, by decide, rfl, Or.inl (List.mem_of_getElem? (i := 429) (by decide +kernel))⟩
set_option maxRecDepth 100000 in
theorem ff_X4_22 : q_FF RX4 22 4 4 := ⟨RX4, TX4, 10, q_ok4, by decide, rfl, rfl, rfl, List.mem_of_getElem? (i := 429) (by decide +kernel)⟩
set_option maxRecDepth 100000 in
theorem fl_X4_25 : q_FL RX4 25 4 5 := ⟨RX4, TX4, 10, q_ok4, by decide, rfl, Or.inl (List.mem_of_getElem? (i := 430) (by decide +kernel))⟩
set_option maxRecDepth 100000 in
theorem ff_X4_25 : q_FF RX4 25 4 5 := ⟨RX4, TX4, 10, q_ok4, by decide, rfl, rfl, rfl, List.mem_of_getElem? (i := 430) (by decide +kernel)⟩
set_option maxRecDepth 100000 in
theorem fl_X4_28 : q_FL RX4 28 4 6 := ⟨RX4, TX4, 10, q_ok4, by decide, rfl, Or.inl (List.mem_of_getElem? (i := 431) (by decide +kernel))⟩
set_option maxRecDepth 100000 in
theorem ff_X4_28 : q_FF RX4 28 4 6 := ⟨RX4, TX4, 10, q_ok4, by decide, rfl, rfl, rfl, List.mem_of_getElem? (i := 431) (by decide +kernel)⟩
set_option maxRecDepth 100000 in
theorem fl_X4_54 : q_FL RX4 54 4 7 := ⟨RX4, TX4, 10, q_ok4, by decide, rfl, Or.inl (List.mem_of_getElem? (i := 432) (by decide +kernel))⟩
theorem fw_X4_54 : q_FW RX4 54 4 7 := ⟨RX4, TX4, 10, q_ok4, by decide, rfl, rfl, (by obtain ⟨C, T, N, o1, o2, o3, o4⟩ := fl_X4_54; have e := Option.some.inj (o1.1.symm.trans q_ok4.1); cases e; exact o4)⟩
set_option maxRecDepth 100000 in
theorem fl_X4_71 : q_FL RX4 71 4 8 := ⟨RX4, TX4, 10, q_ok4, by decide, rfl, Or.inl (List.mem_of_getElem? (i := 433) (by decide +kernel))⟩
theorem fw_X4_71 : q_FW RX4 71 4 8 := ⟨RX4, TX4, 10, q_ok4, by decide, rfl, rfl, (by obtain ⟨C, T, N, o1, o2, o3, o4⟩ := fl_X4_71; have e := Option.some.inj (o1.1.symm.trans q_ok4.1); cases e; exact o4)⟩
set_option maxRecDepth 100000 in
theorem fl_X4_62 : q_FL RX4 62 4 9 := ⟨RX4, TX4, 10, q_ok4, by decide, rfl, Or.inl (List.mem_of_getElem? (i := 434) (by decide +kernel))⟩
theorem fw_X4_62 : q_FW RX4 62 4 9 := ⟨RX4, TX4, 10, q_ok4, by decide, rfl, rfl, (by obtain ⟨C, T, N, o1, o2, o3, o4⟩ := fl_X4_62; have e := Option.some.inj (o1.1.symm.trans q_ok4.1); cases e; exact o4)⟩
set_option maxRecDepth 100000 in
theorem cw_X7_162 : q_CV RX7 162 4 yX4_reachesEnd cX4_reachesEnd 11 (some .boolean) 2 := ⟨⟨TX4, 10, q_ok4⟩, Or.inr ⟨"HopBeams", List.mem_of_getElem? (i := 456) (by decide +kernel)⟩, List.mem_of_getElem? (i := 458) (by decide +kernel), List.mem_of_getElem? (i := 12) (by decide +kernel), List.mem_of_getElem? (i := 459) (by decide +kernel), List.mem_of_getElem? (i := 79) (by decide +kernel), ⟨by decide +kernel, by decide +kernel, by decide +kernel⟩⟩
set_option maxRecDepth 100000 in
theorem cw_X4_31 : q_CV RX4 31 4 yX4_prepare cX4_prepare 3 none 1 := ⟨⟨TX4, 10, q_ok4⟩, Or.inl (List.mem_of_getElem? (i := 460) (by decide +kernel)), List.mem_of_getElem? (i := 462) (by decide +kernel), List.mem_of_getElem? (i := 13) (by decide +kernel), List.mem_of_getElem? (i := 463) (by decide +kernel), List.mem_of_getElem? (i := 79) (by decide +kernel), ⟨by decide +kernel, by decide +kernel, by decide +kernel⟩⟩
set_option maxRecDepth 100000 in
theorem cw_X4_65 : q_CS RX4 65 yJ7_fill_53178 cJ7_fill_53178 4 none 2 := ⟨Or.inl (List.mem_of_getElem? (i := 464) (by decide +kernel)), List.mem_of_getElem? (i := 465) (by decide +kernel), List.mem_of_getElem? (i := 466) (by decide +kernel), List.mem_of_getElem? (i := 80) (by decide +kernel), ⟨by decide +kernel, by decide +kernel, by decide +kernel⟩⟩
set_option maxRecDepth 100000 in
theorem cw_X4_75 : q_CV RX4 75 3 yX3_roomBeside cX3_roomBeside 4 (some .int) 1 := ⟨⟨TX3, 4, q_ok3⟩, Or.inr ⟨"HopBeams", List.mem_of_getElem? (i := 467) (by decide +kernel)⟩, List.mem_of_getElem? (i := 469) (by decide +kernel), List.mem_of_getElem? (i := 14) (by decide +kernel), List.mem_of_getElem? (i := 470) (by decide +kernel), List.mem_of_getElem? (i := 72) (by decide +kernel), ⟨by decide +kernel, by decide +kernel, by decide +kernel⟩⟩
set_option maxRecDepth 100000 in
theorem cw_X3_42 : q_CS RX3 42 yX7_contains cX7_contains 2 (some .boolean) 2 := ⟨Or.inr ⟨"HopBeams", List.mem_of_getElem? (i := 471) (by decide +kernel)⟩, List.mem_of_getElem? (i := 321) (by decide +kernel), List.mem_of_getElem? (i := 322) (by decide +kernel), List.mem_of_getElem? (i := 70) (by decide +kernel), ⟨by decide +kernel, by decide +kernel, by decide +kernel⟩⟩
set_option maxRecDepth 100000 in
theorem cw_X3_46 : q_CV RX3 46 3 yX3_has cX3_has 2 (some .boolean) 1 := ⟨⟨TX3, 4, q_ok3⟩, Or.inl (List.mem_of_getElem? (i := 472) (by decide +kernel)), List.mem_of_getElem? (i := 474) (by decide +kernel), List.mem_of_getElem? (i := 15) (by decide +kernel), List.mem_of_getElem? (i := 475) (by decide +kernel), List.mem_of_getElem? (i := 72) (by decide +kernel), ⟨by decide +kernel, by decide +kernel, by decide +kernel⟩⟩
set_option maxRecDepth 100000 in
theorem cw_X4_79 : q_CS RX4 79 yX4_onceEach cX4_onceEach 4 (some .long) 1 := ⟨Or.inl (List.mem_of_getElem? (i := 476) (by decide +kernel)), List.mem_of_getElem? (i := 477) (by decide +kernel), List.mem_of_getElem? (i := 478) (by decide +kernel), List.mem_of_getElem? (i := 79) (by decide +kernel), ⟨by decide +kernel, by decide +kernel, by decide +kernel⟩⟩
set_option maxRecDepth 100000 in
theorem cw_X4_83 : q_CS RX4 83 yX7_contains cX7_contains 2 (some .boolean) 2 := ⟨Or.inr ⟨"HopBeams", List.mem_of_getElem? (i := 479) (by decide +kernel)⟩, List.mem_of_getElem? (i := 321) (by decide +kernel), List.mem_of_getElem? (i := 322) (by decide +kernel), List.mem_of_getElem? (i := 70) (by decide +kernel), ⟨by decide +kernel, by decide +kernel, by decide +kernel⟩⟩
set_option maxRecDepth 100000 in
theorem cw_X4_35 : q_CV RX4 35 4 yX4_spotOf cX4_spotOf 5 (some .int) 1 := ⟨⟨TX4, 10, q_ok4⟩, Or.inl (List.mem_of_getElem? (i := 480) (by decide +kernel)), List.mem_of_getElem? (i := 482) (by decide +kernel), List.mem_of_getElem? (i := 16) (by decide +kernel), List.mem_of_getElem? (i := 483) (by decide +kernel), List.mem_of_getElem? (i := 79) (by decide +kernel), ⟨by decide +kernel, by decide +kernel, by decide +kernel⟩⟩
set_option maxRecDepth 100000 in
theorem kw_X4_89 : Cond.constantLong RX4 89 (-7046029254386353131) ∈ lw_tbl := List.mem_of_getElem? (i := 484) (by decide +kernel)
set_option maxRecDepth 100000 in
theorem cw_X4_39 : q_CV RX4 39 4 yX4_remember cX4_remember 5 none 3 := ⟨⟨TX4, 10, q_ok4⟩, Or.inl (List.mem_of_getElem? (i := 485) (by decide +kernel)), List.mem_of_getElem? (i := 487) (by decide +kernel), List.mem_of_getElem? (i := 17) (by decide +kernel), List.mem_of_getElem? (i := 488) (by decide +kernel), List.mem_of_getElem? (i := 79) (by decide +kernel), ⟨by decide +kernel, by decide +kernel, by decide +kernel⟩⟩
set_option maxRecDepth 100000 in
theorem cw_X4_47 : q_CS RX4 47 yX4_lacking cX4_lacking 4 (some .int) 1 := ⟨Or.inl (List.mem_of_getElem? (i := 489) (by decide +kernel)), List.mem_of_getElem? (i := 490) (by decide +kernel), List.mem_of_getElem? (i := 491) (by decide +kernel), List.mem_of_getElem? (i := 79) (by decide +kernel), ⟨by decide +kernel, by decide +kernel, by decide +kernel⟩⟩
set_option maxRecDepth 100000 in
theorem kw_X4_87 : Cond.constantLong RX4 87 (15) ∈ lw_tbl := List.mem_of_getElem? (i := 492) (by decide +kernel)
set_option maxRecDepth 100000 in
theorem cw_X4_50 : q_CV RX4 50 4 yX4_chooseWidest cX4_chooseWidest 4 none 2 := ⟨⟨TX4, 10, q_ok4⟩, Or.inl (List.mem_of_getElem? (i := 493) (by decide +kernel)), List.mem_of_getElem? (i := 495) (by decide +kernel), List.mem_of_getElem? (i := 18) (by decide +kernel), List.mem_of_getElem? (i := 496) (by decide +kernel), List.mem_of_getElem? (i := 79) (by decide +kernel), ⟨by decide +kernel, by decide +kernel, by decide +kernel⟩⟩
set_option maxRecDepth 100000 in
theorem cw_X7_167 : q_CV RX7 167 4 yX4_tellRow cX4_tellRow 6 none 1 := ⟨⟨TX4, 10, q_ok4⟩, Or.inr ⟨"HopBeams", List.mem_of_getElem? (i := 497) (by decide +kernel)⟩, List.mem_of_getElem? (i := 499) (by decide +kernel), List.mem_of_getElem? (i := 19) (by decide +kernel), List.mem_of_getElem? (i := 500) (by decide +kernel), List.mem_of_getElem? (i := 79) (by decide +kernel), ⟨by decide +kernel, by decide +kernel, by decide +kernel⟩⟩
set_option maxRecDepth 100000 in
theorem cw_L_63 : q_CV RL 63 7 yX7_frame cX7_frame 2 (some .int) 1 := ⟨⟨TX7, 11, q_ok7⟩, Or.inl (List.mem_of_getElem? (i := 501) (by decide +kernel)), List.mem_of_getElem? (i := 502) (by decide +kernel), List.mem_of_getElem? (i := 503) (by decide +kernel), List.mem_of_getElem? (i := 504) (by decide +kernel), List.mem_of_getElem? (i := 70) (by decide +kernel), ⟨by decide +kernel, by decide +kernel, by decide +kernel⟩⟩
set_option maxRecDepth 100000 in
theorem cw_X7_171 : q_CV RX7 171 1 yX1_has cX1_has 2 (some .boolean) 1 := ⟨⟨TX1, 2, q_ok1⟩, Or.inr ⟨"HopBeams", List.mem_of_getElem? (i := 505) (by decide +kernel)⟩, List.mem_of_getElem? (i := 507) (by decide +kernel), List.mem_of_getElem? (i := 20) (by decide +kernel), List.mem_of_getElem? (i := 508) (by decide +kernel), List.mem_of_getElem? (i := 74) (by decide +kernel), ⟨by decide +kernel, by decide +kernel, by decide +kernel⟩⟩
set_option maxRecDepth 100000 in
theorem cw_L_67 : q_CV RL 67 7 yX7_frameOf cX7_frameOf 5 (some .int) 1 := ⟨⟨TX7, 11, q_ok7⟩, Or.inl (List.mem_of_getElem? (i := 509) (by decide +kernel)), List.mem_of_getElem? (i := 510) (by decide +kernel), List.mem_of_getElem? (i := 511) (by decide +kernel), List.mem_of_getElem? (i := 512) (by decide +kernel), List.mem_of_getElem? (i := 70) (by decide +kernel), ⟨by decide +kernel, by decide +kernel, by decide +kernel⟩⟩
set_option maxRecDepth 100000 in
theorem cw_X7_177 : q_CV RX7 177 5 yX5_lengthOf cX5_lengthOf 2 (some .int) 1 := ⟨⟨TX5, 3, q_ok5⟩, Or.inr ⟨"HopBeams", List.mem_of_getElem? (i := 513) (by decide +kernel)⟩, List.mem_of_getElem? (i := 357) (by decide +kernel), List.mem_of_getElem? (i := 4) (by decide +kernel), List.mem_of_getElem? (i := 358) (by decide +kernel), List.mem_of_getElem? (i := 73) (by decide +kernel), ⟨by decide +kernel, by decide +kernel, by decide +kernel⟩⟩
set_option maxRecDepth 100000 in
theorem cw_X7_181 : q_CS RX7 181 yJ9_min_7cf53 cJ9_min_7cf53 2 (some .int) 2 := ⟨Or.inl (List.mem_of_getElem? (i := 514) (by decide +kernel)), List.mem_of_getElem? (i := 402) (by decide +kernel), List.mem_of_getElem? (i := 403) (by decide +kernel), List.mem_of_getElem? (i := 78) (by decide +kernel), ⟨by decide +kernel, by decide +kernel, by decide +kernel⟩⟩
set_option maxRecDepth 100000 in
theorem cw_X7_187 : q_CV RX7 187 5 yX5_areWithin cX5_areWithin 5 (some .boolean) 3 := ⟨⟨TX5, 3, q_ok5⟩, Or.inr ⟨"HopBeams", List.mem_of_getElem? (i := 515) (by decide +kernel)⟩, List.mem_of_getElem? (i := 349) (by decide +kernel), List.mem_of_getElem? (i := 2) (by decide +kernel), List.mem_of_getElem? (i := 350) (by decide +kernel), List.mem_of_getElem? (i := 73) (by decide +kernel), ⟨by decide +kernel, by decide +kernel, by decide +kernel⟩⟩
set_option maxRecDepth 100000 in
theorem cw_L_71 : q_CV RL 71 7 yX7_proof cX7_proof 7 (some .long) 1 := ⟨⟨TX7, 11, q_ok7⟩, Or.inl (List.mem_of_getElem? (i := 516) (by decide +kernel)), List.mem_of_getElem? (i := 517) (by decide +kernel), List.mem_of_getElem? (i := 518) (by decide +kernel), List.mem_of_getElem? (i := 519) (by decide +kernel), List.mem_of_getElem? (i := 70) (by decide +kernel), ⟨by decide +kernel, by decide +kernel, by decide +kernel⟩⟩
set_option maxRecDepth 100000 in
theorem kw_X7_191 : Cond.constant RX7 191 (1000000) ∈ lw_tbl := List.mem_of_getElem? (i := 520) (by decide +kernel)
set_option maxRecDepth 100000 in
theorem cw_X7_195 : q_CV RX7 195 3 yX3_worthiest cX3_worthiest 6 (some .int) 1 := ⟨⟨TX3, 4, q_ok3⟩, Or.inr ⟨"HopBeams", List.mem_of_getElem? (i := 521) (by decide +kernel)⟩, List.mem_of_getElem? (i := 523) (by decide +kernel), List.mem_of_getElem? (i := 21) (by decide +kernel), List.mem_of_getElem? (i := 524) (by decide +kernel), List.mem_of_getElem? (i := 72) (by decide +kernel), ⟨by decide +kernel, by decide +kernel, by decide +kernel⟩⟩
set_option maxRecDepth 100000 in
theorem kw_X7_199 : Cond.constantLong RX7 199 (-1) ∈ lw_tbl := List.mem_of_getElem? (i := 525) (by decide +kernel)
set_option maxRecDepth 100000 in
theorem cw_L_76 : q_CV RL 76 7 yX7_ways cX7_ways 2 (some .int) 1 := ⟨⟨TX7, 11, q_ok7⟩, Or.inl (List.mem_of_getElem? (i := 526) (by decide +kernel)), List.mem_of_getElem? (i := 527) (by decide +kernel), List.mem_of_getElem? (i := 528) (by decide +kernel), List.mem_of_getElem? (i := 529) (by decide +kernel), List.mem_of_getElem? (i := 70) (by decide +kernel), ⟨by decide +kernel, by decide +kernel, by decide +kernel⟩⟩
set_option maxRecDepth 100000 in
theorem kw_X7_201 : Cond.constantLong RX7 201 (24) ∈ lw_tbl := List.mem_of_getElem? (i := 530) (by decide +kernel)
set_option maxRecDepth 100000 in
theorem kl_X7_207 : Cond.classLink RX7 207 RX6 ∈ lw_tbl := List.mem_of_getElem? (i := 531) (by decide +kernel)
set_option maxRecDepth 100000 in
theorem in_X6 : Cond.instantiable RX6 5 ∈ lw_tbl := List.mem_of_getElem? (i := 532) (by decide +kernel)
set_option maxRecDepth 100000 in
theorem cw_X7_209 : q_CI RX7 209 yX6_init cX6_init 1 0 := ⟨Or.inr ⟨"HopBeams", List.mem_of_getElem? (i := 533) (by decide +kernel)⟩, rfl, List.mem_of_getElem? (i := 534) (by decide +kernel), List.mem_of_getElem? (i := 535) (by decide +kernel), List.mem_of_getElem? (i := 81) (by decide +kernel), ⟨by decide +kernel, by decide +kernel, by decide +kernel⟩⟩
set_option maxRecDepth 100000 in
theorem wl_X6_5 : Cond.methodLink RX6 5 objectInit ∈ lw_tbl := List.mem_of_getElem? (i := 536) (by decide +kernel)
set_option maxRecDepth 100000 in
theorem fl_X6_11 : q_FL RX6 11 6 0 := ⟨RX6, TX6, 5, q_ok6, by decide, rfl, Or.inl (List.mem_of_getElem? (i := 537) (by decide +kernel))⟩
set_option maxRecDepth 100000 in
theorem ff_X6_11 : q_FF RX6 11 6 0 := ⟨RX6, TX6, 5, q_ok6, by decide, rfl, rfl, rfl, List.mem_of_getElem? (i := 537) (by decide +kernel)⟩
set_option maxRecDepth 100000 in
theorem fl_X6_15 : q_FL RX6 15 6 1 := ⟨RX6, TX6, 5, q_ok6, by decide, rfl, Or.inl (List.mem_of_getElem? (i := 538) (by decide +kernel))⟩
set_option maxRecDepth 100000 in
theorem ff_X6_15 : q_FF RX6 15 6 1 := ⟨RX6, TX6, 5, q_ok6, by decide, rfl, rfl, rfl, List.mem_of_getElem? (i := 538) (by decide +kernel)⟩
set_option maxRecDepth 100000 in
theorem fl_X6_18 : q_FL RX6 18 6 2 := ⟨RX6, TX6, 5, q_ok6, by decide, rfl, Or.inl (List.mem_of_getElem? (i := 539) (by decide +kernel))⟩
set_option maxRecDepth 100000 in
theorem ff_X6_18 : q_FF RX6 18 6 2 := ⟨RX6, TX6, 5, q_ok6, by decide, rfl, rfl, rfl, List.mem_of_getElem? (i := 539) (by decide +kernel)⟩
set_option maxRecDepth 100000 in
theorem fl_X6_22 : q_FL RX6 22 6 3 := ⟨RX6, TX6, 5, q_ok6, by decide, rfl, Or.inl (List.mem_of_getElem? (i := 540) (by decide +kernel))⟩
set_option maxRecDepth 100000 in
theorem ff_X6_22 : q_FF RX6 22 6 3 := ⟨RX6, TX6, 5, q_ok6, by decide, rfl, rfl, rfl, List.mem_of_getElem? (i := 540) (by decide +kernel)⟩
set_option maxRecDepth 100000 in
theorem fl_X6_25 : q_FL RX6 25 6 4 := ⟨RX6, TX6, 5, q_ok6, by decide, rfl, Or.inl (List.mem_of_getElem? (i := 541) (by decide +kernel))⟩
set_option maxRecDepth 100000 in
theorem ff_X6_25 : q_FF RX6 25 6 4 := ⟨RX6, TX6, 5, q_ok6, by decide, rfl, rfl, rfl, List.mem_of_getElem? (i := 541) (by decide +kernel)⟩
set_option maxRecDepth 100000 in
theorem ar_arrayClass_byte : Cond.arrayClass .byte ∈ lw_tbl := List.mem_of_getElem? (i := 553) (by decide +kernel)
set_option maxRecDepth 100000 in
theorem cw_X7_210 : q_CV RX7 210 6 yX6_countRows cX6_countRows 6 none 3 := ⟨⟨TX6, 5, q_ok6⟩, Or.inr ⟨"HopBeams", List.mem_of_getElem? (i := 554) (by decide +kernel)⟩, List.mem_of_getElem? (i := 556) (by decide +kernel), List.mem_of_getElem? (i := 22) (by decide +kernel), List.mem_of_getElem? (i := 557) (by decide +kernel), List.mem_of_getElem? (i := 81) (by decide +kernel), ⟨by decide +kernel, by decide +kernel, by decide +kernel⟩⟩
set_option maxRecDepth 100000 in
theorem cw_X6_29 : q_CV RX6 29 6 yX6_countWithin cX6_countWithin 5 none 2 := ⟨⟨TX6, 5, q_ok6⟩, Or.inl (List.mem_of_getElem? (i := 558) (by decide +kernel)), List.mem_of_getElem? (i := 560) (by decide +kernel), List.mem_of_getElem? (i := 23) (by decide +kernel), List.mem_of_getElem? (i := 561) (by decide +kernel), List.mem_of_getElem? (i := 81) (by decide +kernel), ⟨by decide +kernel, by decide +kernel, by decide +kernel⟩⟩
set_option maxRecDepth 100000 in
theorem cw_X6_68 : q_CV RX6 68 3 yX3_has cX3_has 2 (some .boolean) 1 := ⟨⟨TX3, 4, q_ok3⟩, Or.inr ⟨"HopBeams", List.mem_of_getElem? (i := 562) (by decide +kernel)⟩, List.mem_of_getElem? (i := 474) (by decide +kernel), List.mem_of_getElem? (i := 15) (by decide +kernel), List.mem_of_getElem? (i := 475) (by decide +kernel), List.mem_of_getElem? (i := 72) (by decide +kernel), ⟨by decide +kernel, by decide +kernel, by decide +kernel⟩⟩
set_option maxRecDepth 100000 in
theorem cw_X6_74 : q_CS RX6 74 yX7_contains cX7_contains 2 (some .boolean) 2 := ⟨Or.inr ⟨"HopBeams", List.mem_of_getElem? (i := 563) (by decide +kernel)⟩, List.mem_of_getElem? (i := 321) (by decide +kernel), List.mem_of_getElem? (i := 322) (by decide +kernel), List.mem_of_getElem? (i := 70) (by decide +kernel), ⟨by decide +kernel, by decide +kernel, by decide +kernel⟩⟩
set_option maxRecDepth 100000 in
theorem cw_X6_33 : q_CS RX6 33 yJ7_fill_53178 cJ7_fill_53178 4 none 2 := ⟨Or.inl (List.mem_of_getElem? (i := 564) (by decide +kernel)), List.mem_of_getElem? (i := 465) (by decide +kernel), List.mem_of_getElem? (i := 466) (by decide +kernel), List.mem_of_getElem? (i := 80) (by decide +kernel), ⟨by decide +kernel, by decide +kernel, by decide +kernel⟩⟩
set_option maxRecDepth 100000 in
theorem cw_X6_39 : q_CS RX6 39 yJ9_min_7cf53 cJ9_min_7cf53 2 (some .int) 2 := ⟨Or.inl (List.mem_of_getElem? (i := 565) (by decide +kernel)), List.mem_of_getElem? (i := 402) (by decide +kernel), List.mem_of_getElem? (i := 403) (by decide +kernel), List.mem_of_getElem? (i := 78) (by decide +kernel), ⟨by decide +kernel, by decide +kernel, by decide +kernel⟩⟩
set_option maxRecDepth 100000 in
theorem cw_X6_45 : q_CS RX6 45 yJ6_bitCount_0f7a4 cJ6_bitCount_0f7a4 1 (some .int) 1 := ⟨Or.inl (List.mem_of_getElem? (i := 566) (by decide +kernel)), List.mem_of_getElem? (i := 378) (by decide +kernel), List.mem_of_getElem? (i := 379) (by decide +kernel), List.mem_of_getElem? (i := 77) (by decide +kernel), ⟨by decide +kernel, by decide +kernel, by decide +kernel⟩⟩
set_option maxRecDepth 100000 in
theorem cw_X6_51 : q_CS RX6 51 yJ7_fill_d0a16 cJ7_fill_d0a16 5 none 2 := ⟨Or.inl (List.mem_of_getElem? (i := 567) (by decide +kernel)), List.mem_of_getElem? (i := 568) (by decide +kernel), List.mem_of_getElem? (i := 569) (by decide +kernel), List.mem_of_getElem? (i := 80) (by decide +kernel), ⟨by decide +kernel, by decide +kernel, by decide +kernel⟩⟩
set_option maxRecDepth 100000 in
theorem cw_X6_54 : q_CV RX6 54 6 yX6_raise cX6_raise 9 none 2 := ⟨⟨TX6, 5, q_ok6⟩, Or.inl (List.mem_of_getElem? (i := 570) (by decide +kernel)), List.mem_of_getElem? (i := 572) (by decide +kernel), List.mem_of_getElem? (i := 24) (by decide +kernel), List.mem_of_getElem? (i := 573) (by decide +kernel), List.mem_of_getElem? (i := 81) (by decide +kernel), ⟨by decide +kernel, by decide +kernel, by decide +kernel⟩⟩
set_option maxRecDepth 100000 in
theorem kw_X6_78 : Cond.constantLong RX6 78 (1000000000) ∈ lw_tbl := List.mem_of_getElem? (i := 574) (by decide +kernel)
set_option maxRecDepth 100000 in
theorem cw_X6_58 : q_CV RX6 58 6 yX6_addPower cX6_addPower 3 none 1 := ⟨⟨TX6, 5, q_ok6⟩, Or.inl (List.mem_of_getElem? (i := 575) (by decide +kernel)), List.mem_of_getElem? (i := 577) (by decide +kernel), List.mem_of_getElem? (i := 25) (by decide +kernel), List.mem_of_getElem? (i := 578) (by decide +kernel), List.mem_of_getElem? (i := 81) (by decide +kernel), ⟨by decide +kernel, by decide +kernel, by decide +kernel⟩⟩
set_option maxRecDepth 100000 in
theorem cw_X6_62 : q_CV RX6 62 6 yX6_carry cX6_carry 6 none 0 := ⟨⟨TX6, 5, q_ok6⟩, Or.inl (List.mem_of_getElem? (i := 579) (by decide +kernel)), List.mem_of_getElem? (i := 581) (by decide +kernel), List.mem_of_getElem? (i := 26) (by decide +kernel), List.mem_of_getElem? (i := 582) (by decide +kernel), List.mem_of_getElem? (i := 81) (by decide +kernel), ⟨by decide +kernel, by decide +kernel, by decide +kernel⟩⟩
set_option maxRecDepth 100000 in
theorem cw_X6_80 : q_CS RX6 80 yJ9_floorMod_f86c9 cJ9_floorMod_f86c9 6 (some .long) 2 := ⟨Or.inl (List.mem_of_getElem? (i := 583) (by decide +kernel)), List.mem_of_getElem? (i := 584) (by decide +kernel), List.mem_of_getElem? (i := 585) (by decide +kernel), List.mem_of_getElem? (i := 78) (by decide +kernel), ⟨by decide +kernel, by decide +kernel, by decide +kernel⟩⟩
set_option maxRecDepth 100000 in
theorem cw_X6_84 : q_CS RX6 84 yJ9_floorDiv_f86c9 cJ9_floorDiv_f86c9 6 (some .long) 2 := ⟨Or.inl (List.mem_of_getElem? (i := 586) (by decide +kernel)), List.mem_of_getElem? (i := 587) (by decide +kernel), List.mem_of_getElem? (i := 588) (by decide +kernel), List.mem_of_getElem? (i := 78) (by decide +kernel), ⟨by decide +kernel, by decide +kernel, by decide +kernel⟩⟩
set_option maxRecDepth 100000 in
theorem cw_X6_65 : q_CV RX6 65 6 yX6_writeDigits cX6_writeDigits 5 none 0 := ⟨⟨TX6, 5, q_ok6⟩, Or.inl (List.mem_of_getElem? (i := 589) (by decide +kernel)), List.mem_of_getElem? (i := 591) (by decide +kernel), List.mem_of_getElem? (i := 27) (by decide +kernel), List.mem_of_getElem? (i := 592) (by decide +kernel), List.mem_of_getElem? (i := 81) (by decide +kernel), ⟨by decide +kernel, by decide +kernel, by decide +kernel⟩⟩
set_option maxRecDepth 100000 in
theorem kw_X6_87 : Cond.constantLong RX6 87 (10) ∈ lw_tbl := List.mem_of_getElem? (i := 593) (by decide +kernel)
set_option maxRecDepth 100000 in
theorem cw_X7_214 : q_CV RX7 214 6 yX6_digitsUsed cX6_digitsUsed 2 (some .int) 0 := ⟨⟨TX6, 5, q_ok6⟩, Or.inr ⟨"HopBeams", List.mem_of_getElem? (i := 594) (by decide +kernel)⟩, List.mem_of_getElem? (i := 596) (by decide +kernel), List.mem_of_getElem? (i := 28) (by decide +kernel), List.mem_of_getElem? (i := 597) (by decide +kernel), List.mem_of_getElem? (i := 81) (by decide +kernel), ⟨by decide +kernel, by decide +kernel, by decide +kernel⟩⟩
set_option maxRecDepth 100000 in
theorem cw_L_80 : q_CV RL 80 7 yX7_digit cX7_digit 2 (some .int) 1 := ⟨⟨TX7, 11, q_ok7⟩, Or.inl (List.mem_of_getElem? (i := 598) (by decide +kernel)), List.mem_of_getElem? (i := 599) (by decide +kernel), List.mem_of_getElem? (i := 600) (by decide +kernel), List.mem_of_getElem? (i := 601) (by decide +kernel), List.mem_of_getElem? (i := 70) (by decide +kernel), ⟨by decide +kernel, by decide +kernel, by decide +kernel⟩⟩
set_option maxRecDepth 100000 in
theorem cw_X7_217 : q_CV RX7 217 6 yX6_digitAt cX6_digitAt 2 (some .int) 1 := ⟨⟨TX6, 5, q_ok6⟩, Or.inr ⟨"HopBeams", List.mem_of_getElem? (i := 602) (by decide +kernel)⟩, List.mem_of_getElem? (i := 604) (by decide +kernel), List.mem_of_getElem? (i := 29) (by decide +kernel), List.mem_of_getElem? (i := 605) (by decide +kernel), List.mem_of_getElem? (i := 81) (by decide +kernel), ⟨by decide +kernel, by decide +kernel, by decide +kernel⟩⟩
set_option maxRecDepth 100000 in
theorem cw_L_84 : q_CV RL 84 7 yX7_rule cX7_rule 3 (some .int) 1 := ⟨⟨TX7, 11, q_ok7⟩, Or.inl (List.mem_of_getElem? (i := 606) (by decide +kernel)), List.mem_of_getElem? (i := 607) (by decide +kernel), List.mem_of_getElem? (i := 608) (by decide +kernel), List.mem_of_getElem? (i := 609) (by decide +kernel), List.mem_of_getElem? (i := 70) (by decide +kernel), ⟨by decide +kernel, by decide +kernel, by decide +kernel⟩⟩
set_option maxRecDepth 100000 in
theorem cw_L_88 : q_CV RL 88 7 yX7_go cX7_go 3 (some .int) 1 := ⟨⟨TX7, 11, q_ok7⟩, Or.inl (List.mem_of_getElem? (i := 610) (by decide +kernel)), List.mem_of_getElem? (i := 611) (by decide +kernel), List.mem_of_getElem? (i := 612) (by decide +kernel), List.mem_of_getElem? (i := 613) (by decide +kernel), List.mem_of_getElem? (i := 70) (by decide +kernel), ⟨by decide +kernel, by decide +kernel, by decide +kernel⟩⟩
set_option maxRecDepth 100000 in
theorem kw_X7_223 : Cond.constantLong RX7 223 (200) ∈ lw_tbl := List.mem_of_getElem? (i := 614) (by decide +kernel)
set_option maxRecDepth 100000 in
theorem cw_X7_228 : q_CV RX7 228 7 yX7_passSlot cX7_passSlot 1 none 0 := ⟨⟨TX7, 11, q_ok7⟩, Or.inl (List.mem_of_getElem? (i := 615) (by decide +kernel)), List.mem_of_getElem? (i := 617) (by decide +kernel), List.mem_of_getElem? (i := 30) (by decide +kernel), List.mem_of_getElem? (i := 618) (by decide +kernel), List.mem_of_getElem? (i := 70) (by decide +kernel), ⟨by decide +kernel, by decide +kernel, by decide +kernel⟩⟩
set_option maxRecDepth 100000 in
theorem cw_X7_260 : q_CV RX7 260 2 yX2_takeAsked cX2_takeAsked 2 none 0 := ⟨⟨TX2, 8, q_ok2⟩, Or.inr ⟨"HopBeams", List.mem_of_getElem? (i := 619) (by decide +kernel)⟩, List.mem_of_getElem? (i := 621) (by decide +kernel), List.mem_of_getElem? (i := 31) (by decide +kernel), List.mem_of_getElem? (i := 622) (by decide +kernel), List.mem_of_getElem? (i := 71) (by decide +kernel), ⟨by decide +kernel, by decide +kernel, by decide +kernel⟩⟩
set_option maxRecDepth 100000 in
theorem cw_X2_76 : q_CV RX2 76 0 yX0_takeAsked cX0_takeAsked 1 none 0 := ⟨⟨TX0, 16, q_ok0⟩, Or.inr ⟨"HopBeams", List.mem_of_getElem? (i := 623) (by decide +kernel)⟩, List.mem_of_getElem? (i := 625) (by decide +kernel), List.mem_of_getElem? (i := 32) (by decide +kernel), List.mem_of_getElem? (i := 626) (by decide +kernel), List.mem_of_getElem? (i := 76) (by decide +kernel), ⟨by decide +kernel, by decide +kernel, by decide +kernel⟩⟩
set_option maxRecDepth 100000 in
theorem cw_X7_263 : q_CV RX7 263 7 yX7_heaviestSet cX7_heaviestSet 2 (some .int) 0 := ⟨⟨TX7, 11, q_ok7⟩, Or.inl (List.mem_of_getElem? (i := 627) (by decide +kernel)), List.mem_of_getElem? (i := 629) (by decide +kernel), List.mem_of_getElem? (i := 33) (by decide +kernel), List.mem_of_getElem? (i := 630) (by decide +kernel), List.mem_of_getElem? (i := 70) (by decide +kernel), ⟨by decide +kernel, by decide +kernel, by decide +kernel⟩⟩
set_option maxRecDepth 100000 in
theorem cw_X7_277 : q_CV RX7 277 0 yX0_weightIfLit cX0_weightIfLit 1 (some .int) 0 := ⟨⟨TX0, 16, q_ok0⟩, Or.inr ⟨"HopBeams", List.mem_of_getElem? (i := 631) (by decide +kernel)⟩, List.mem_of_getElem? (i := 633) (by decide +kernel), List.mem_of_getElem? (i := 34) (by decide +kernel), List.mem_of_getElem? (i := 634) (by decide +kernel), List.mem_of_getElem? (i := 76) (by decide +kernel), ⟨by decide +kernel, by decide +kernel, by decide +kernel⟩⟩
set_option maxRecDepth 100000 in
theorem cw_X0_41 : q_CV RX0 41 0 yX0_held cX0_held 1 (some .int) 0 := ⟨⟨TX0, 16, q_ok0⟩, Or.inl (List.mem_of_getElem? (i := 635) (by decide +kernel)), List.mem_of_getElem? (i := 637) (by decide +kernel), List.mem_of_getElem? (i := 35) (by decide +kernel), List.mem_of_getElem? (i := 638) (by decide +kernel), List.mem_of_getElem? (i := 76) (by decide +kernel), ⟨by decide +kernel, by decide +kernel, by decide +kernel⟩⟩
set_option maxRecDepth 100000 in
theorem cw_X0_45 : q_CV RX0 45 0 yX0_rateNow cX0_rateNow 1 (some .int) 0 := ⟨⟨TX0, 16, q_ok0⟩, Or.inl (List.mem_of_getElem? (i := 639) (by decide +kernel)), List.mem_of_getElem? (i := 641) (by decide +kernel), List.mem_of_getElem? (i := 36) (by decide +kernel), List.mem_of_getElem? (i := 642) (by decide +kernel), List.mem_of_getElem? (i := 76) (by decide +kernel), ⟨by decide +kernel, by decide +kernel, by decide +kernel⟩⟩
set_option maxRecDepth 100000 in
theorem cw_X0_48 : q_CS RX0 48 yJ9_min_7cf53 cJ9_min_7cf53 2 (some .int) 2 := ⟨Or.inl (List.mem_of_getElem? (i := 643) (by decide +kernel)), List.mem_of_getElem? (i := 402) (by decide +kernel), List.mem_of_getElem? (i := 403) (by decide +kernel), List.mem_of_getElem? (i := 78) (by decide +kernel), ⟨by decide +kernel, by decide +kernel, by decide +kernel⟩⟩
set_option maxRecDepth 100000 in
theorem cw_X7_266 : q_CV RX7 266 7 yX7_setOfFrame cX7_setOfFrame 3 (some .int) 0 := ⟨⟨TX7, 11, q_ok7⟩, Or.inl (List.mem_of_getElem? (i := 644) (by decide +kernel)), List.mem_of_getElem? (i := 646) (by decide +kernel), List.mem_of_getElem? (i := 37) (by decide +kernel), List.mem_of_getElem? (i := 647) (by decide +kernel), List.mem_of_getElem? (i := 70) (by decide +kernel), ⟨by decide +kernel, by decide +kernel, by decide +kernel⟩⟩
set_option maxRecDepth 100000 in
theorem cw_X7_276 : q_CV RX7 276 3 yX3_has cX3_has 2 (some .boolean) 1 := ⟨⟨TX3, 4, q_ok3⟩, Or.inr ⟨"HopBeams", List.mem_of_getElem? (i := 648) (by decide +kernel)⟩, List.mem_of_getElem? (i := 474) (by decide +kernel), List.mem_of_getElem? (i := 15) (by decide +kernel), List.mem_of_getElem? (i := 475) (by decide +kernel), List.mem_of_getElem? (i := 72) (by decide +kernel), ⟨by decide +kernel, by decide +kernel, by decide +kernel⟩⟩
set_option maxRecDepth 100000 in
theorem cw_X7_269 : q_CV RX7 269 2 yX2_serve cX2_serve 4 none 1 := ⟨⟨TX2, 8, q_ok2⟩, Or.inr ⟨"HopBeams", List.mem_of_getElem? (i := 649) (by decide +kernel)⟩, List.mem_of_getElem? (i := 651) (by decide +kernel), List.mem_of_getElem? (i := 38) (by decide +kernel), List.mem_of_getElem? (i := 652) (by decide +kernel), List.mem_of_getElem? (i := 71) (by decide +kernel), ⟨by decide +kernel, by decide +kernel, by decide +kernel⟩⟩
set_option maxRecDepth 100000 in
theorem cw_X2_79 : q_CV RX2 79 0 yX0_send cX0_send 4 none 0 := ⟨⟨TX0, 16, q_ok0⟩, Or.inr ⟨"HopBeams", List.mem_of_getElem? (i := 653) (by decide +kernel)⟩, List.mem_of_getElem? (i := 655) (by decide +kernel), List.mem_of_getElem? (i := 39) (by decide +kernel), List.mem_of_getElem? (i := 656) (by decide +kernel), List.mem_of_getElem? (i := 76) (by decide +kernel), ⟨by decide +kernel, by decide +kernel, by decide +kernel⟩⟩
set_option maxRecDepth 100000 in
theorem cw_X2_82 : q_CV RX2 82 0 yX0_markLight cX0_markLight 2 none 1 := ⟨⟨TX0, 16, q_ok0⟩, Or.inr ⟨"HopBeams", List.mem_of_getElem? (i := 657) (by decide +kernel)⟩, List.mem_of_getElem? (i := 659) (by decide +kernel), List.mem_of_getElem? (i := 40) (by decide +kernel), List.mem_of_getElem? (i := 660) (by decide +kernel), List.mem_of_getElem? (i := 76) (by decide +kernel), ⟨by decide +kernel, by decide +kernel, by decide +kernel⟩⟩
set_option maxRecDepth 100000 in
theorem cw_X0_66 : q_CS RX0 66 yJ9_max_7cf53 cJ9_max_7cf53 2 (some .int) 2 := ⟨Or.inl (List.mem_of_getElem? (i := 661) (by decide +kernel)), List.mem_of_getElem? (i := 662) (by decide +kernel), List.mem_of_getElem? (i := 663) (by decide +kernel), List.mem_of_getElem? (i := 78) (by decide +kernel), ⟨by decide +kernel, by decide +kernel, by decide +kernel⟩⟩
set_option maxRecDepth 100000 in
theorem cw_X2_86 : q_CV RX2 86 0 yX0_growOlder cX0_growOlder 3 none 1 := ⟨⟨TX0, 16, q_ok0⟩, Or.inr ⟨"HopBeams", List.mem_of_getElem? (i := 664) (by decide +kernel)⟩, List.mem_of_getElem? (i := 666) (by decide +kernel), List.mem_of_getElem? (i := 41) (by decide +kernel), List.mem_of_getElem? (i := 667) (by decide +kernel), List.mem_of_getElem? (i := 76) (by decide +kernel), ⟨by decide +kernel, by decide +kernel, by decide +kernel⟩⟩
set_option maxRecDepth 100000 in
theorem cw_X7_273 : q_CV RX7 273 2 yX2_handOn cX2_handOn 3 (some .boolean) 0 := ⟨⟨TX2, 8, q_ok2⟩, Or.inr ⟨"HopBeams", List.mem_of_getElem? (i := 668) (by decide +kernel)⟩, List.mem_of_getElem? (i := 670) (by decide +kernel), List.mem_of_getElem? (i := 42) (by decide +kernel), List.mem_of_getElem? (i := 671) (by decide +kernel), List.mem_of_getElem? (i := 71) (by decide +kernel), ⟨by decide +kernel, by decide +kernel, by decide +kernel⟩⟩
set_option maxRecDepth 100000 in
theorem cw_L_92 : q_CV RL 92 7 yX7_lit cX7_lit 1 (some .int) 0 := ⟨⟨TX7, 11, q_ok7⟩, Or.inl (List.mem_of_getElem? (i := 672) (by decide +kernel)), List.mem_of_getElem? (i := 673) (by decide +kernel), List.mem_of_getElem? (i := 674) (by decide +kernel), List.mem_of_getElem? (i := 675) (by decide +kernel), List.mem_of_getElem? (i := 70) (by decide +kernel), ⟨by decide +kernel, by decide +kernel, by decide +kernel⟩⟩
set_option maxRecDepth 100000 in
theorem cw_L_96 : q_CV RL 96 7 yX7_cellOf cX7_cellOf 3 (some .int) 2 := ⟨⟨TX7, 11, q_ok7⟩, Or.inl (List.mem_of_getElem? (i := 676) (by decide +kernel)), List.mem_of_getElem? (i := 677) (by decide +kernel), List.mem_of_getElem? (i := 678) (by decide +kernel), List.mem_of_getElem? (i := 679) (by decide +kernel), List.mem_of_getElem? (i := 70) (by decide +kernel), ⟨by decide +kernel, by decide +kernel, by decide +kernel⟩⟩
set_option maxRecDepth 100000 in
theorem cw_X7_231 : q_CV RX7 231 0 yX0_tell cX0_tell 2 (some .int) 1 := ⟨⟨TX0, 16, q_ok0⟩, Or.inr ⟨"HopBeams", List.mem_of_getElem? (i := 680) (by decide +kernel)⟩, List.mem_of_getElem? (i := 682) (by decide +kernel), List.mem_of_getElem? (i := 43) (by decide +kernel), List.mem_of_getElem? (i := 683) (by decide +kernel), List.mem_of_getElem? (i := 76) (by decide +kernel), ⟨by decide +kernel, by decide +kernel, by decide +kernel⟩⟩
set_option maxRecDepth 100000 in
theorem cw_X0_69 : q_CV RX0 69 0 yX0_powerNow cX0_powerNow 1 (some .int) 0 := ⟨⟨TX0, 16, q_ok0⟩, Or.inl (List.mem_of_getElem? (i := 684) (by decide +kernel)), List.mem_of_getElem? (i := 386) (by decide +kernel), List.mem_of_getElem? (i := 7) (by decide +kernel), List.mem_of_getElem? (i := 387) (by decide +kernel), List.mem_of_getElem? (i := 76) (by decide +kernel), ⟨by decide +kernel, by decide +kernel, by decide +kernel⟩⟩
set_option maxRecDepth 100000 in
theorem cw_X0_78 : q_CV RX0 78 0 yX0_oldest cX0_oldest 2 (some .int) 0 := ⟨⟨TX0, 16, q_ok0⟩, Or.inl (List.mem_of_getElem? (i := 685) (by decide +kernel)), List.mem_of_getElem? (i := 687) (by decide +kernel), List.mem_of_getElem? (i := 44) (by decide +kernel), List.mem_of_getElem? (i := 688) (by decide +kernel), List.mem_of_getElem? (i := 76) (by decide +kernel), ⟨by decide +kernel, by decide +kernel, by decide +kernel⟩⟩
set_option maxRecDepth 100000 in
theorem cw_L_100 : q_CV RL 100 7 yX7_units cX7_units 3 (some .long) 2 := ⟨⟨TX7, 11, q_ok7⟩, Or.inl (List.mem_of_getElem? (i := 689) (by decide +kernel)), List.mem_of_getElem? (i := 690) (by decide +kernel), List.mem_of_getElem? (i := 691) (by decide +kernel), List.mem_of_getElem? (i := 692) (by decide +kernel), List.mem_of_getElem? (i := 70) (by decide +kernel), ⟨by decide +kernel, by decide +kernel, by decide +kernel⟩⟩
set_option maxRecDepth 100000 in
theorem cw_X7_234 : q_CV RX7 234 0 yX0_tellUnits cX0_tellUnits 2 (some .long) 1 := ⟨⟨TX0, 16, q_ok0⟩, Or.inr ⟨"HopBeams", List.mem_of_getElem? (i := 693) (by decide +kernel)⟩, List.mem_of_getElem? (i := 695) (by decide +kernel), List.mem_of_getElem? (i := 45) (by decide +kernel), List.mem_of_getElem? (i := 696) (by decide +kernel), List.mem_of_getElem? (i := 76) (by decide +kernel), ⟨by decide +kernel, by decide +kernel, by decide +kernel⟩⟩
set_option maxRecDepth 100000 in
theorem kw_X0_84 : Cond.constantLong RX0 84 (-2) ∈ lw_tbl := List.mem_of_getElem? (i := 697) (by decide +kernel)
set_option maxRecDepth 100000 in
theorem kw_X7_238 : Cond.constantLong RX7 238 (-2) ∈ lw_tbl := List.mem_of_getElem? (i := 698) (by decide +kernel)
set_option maxRecDepth 100000 in
theorem cw_L_105 : q_CV RL 105 7 yX7_count cX7_count 2 (some .int) 1 := ⟨⟨TX7, 11, q_ok7⟩, Or.inl (List.mem_of_getElem? (i := 699) (by decide +kernel)), List.mem_of_getElem? (i := 700) (by decide +kernel), List.mem_of_getElem? (i := 701) (by decide +kernel), List.mem_of_getElem? (i := 702) (by decide +kernel), List.mem_of_getElem? (i := 70) (by decide +kernel), ⟨by decide +kernel, by decide +kernel, by decide +kernel⟩⟩
set_option maxRecDepth 100000 in
theorem cw_X7_240 : q_CV RX7 240 5 yX5_placesWithRow cX5_placesWithRow 3 (some .int) 0 := ⟨⟨TX5, 3, q_ok5⟩, Or.inr ⟨"HopBeams", List.mem_of_getElem? (i := 703) (by decide +kernel)⟩, List.mem_of_getElem? (i := 705) (by decide +kernel), List.mem_of_getElem? (i := 46) (by decide +kernel), List.mem_of_getElem? (i := 706) (by decide +kernel), List.mem_of_getElem? (i := 73) (by decide +kernel), ⟨by decide +kernel, by decide +kernel, by decide +kernel⟩⟩
set_option maxRecDepth 100000 in
theorem cw_L_109 : q_CV RL 109 7 yX7_gatewayOf cX7_gatewayOf 3 (some .int) 2 := ⟨⟨TX7, 11, q_ok7⟩, Or.inl (List.mem_of_getElem? (i := 707) (by decide +kernel)), List.mem_of_getElem? (i := 708) (by decide +kernel), List.mem_of_getElem? (i := 709) (by decide +kernel), List.mem_of_getElem? (i := 710) (by decide +kernel), List.mem_of_getElem? (i := 70) (by decide +kernel), ⟨by decide +kernel, by decide +kernel, by decide +kernel⟩⟩
set_option maxRecDepth 100000 in
theorem cw_X7_243 : q_CV RX7 243 2 yX2_cellsOf cX2_cellsOf 4 (some .int) 1 := ⟨⟨TX2, 8, q_ok2⟩, Or.inr ⟨"HopBeams", List.mem_of_getElem? (i := 711) (by decide +kernel)⟩, List.mem_of_getElem? (i := 713) (by decide +kernel), List.mem_of_getElem? (i := 47) (by decide +kernel), List.mem_of_getElem? (i := 714) (by decide +kernel), List.mem_of_getElem? (i := 71) (by decide +kernel), ⟨by decide +kernel, by decide +kernel, by decide +kernel⟩⟩
set_option maxRecDepth 100000 in
theorem cw_L_113 : q_CV RL 113 7 yX7_row cX7_row 4 (some .int) 3 := ⟨⟨TX7, 11, q_ok7⟩, Or.inl (List.mem_of_getElem? (i := 715) (by decide +kernel)), List.mem_of_getElem? (i := 716) (by decide +kernel), List.mem_of_getElem? (i := 717) (by decide +kernel), List.mem_of_getElem? (i := 718) (by decide +kernel), List.mem_of_getElem? (i := 70) (by decide +kernel), ⟨by decide +kernel, by decide +kernel, by decide +kernel⟩⟩
set_option maxRecDepth 100000 in
theorem cw_X7_246 : q_CV RX7 246 5 yX5_lay cX5_lay 4 (some .int) 3 := ⟨⟨TX5, 3, q_ok5⟩, Or.inr ⟨"HopBeams", List.mem_of_getElem? (i := 719) (by decide +kernel)⟩, List.mem_of_getElem? (i := 721) (by decide +kernel), List.mem_of_getElem? (i := 48) (by decide +kernel), List.mem_of_getElem? (i := 722) (by decide +kernel), List.mem_of_getElem? (i := 73) (by decide +kernel), ⟨by decide +kernel, by decide +kernel, by decide +kernel⟩⟩
set_option maxRecDepth 100000 in
theorem kw_X5_43 : Cond.constantLong RX5 43 (3) ∈ lw_tbl := List.mem_of_getElem? (i := 723) (by decide +kernel)
set_option maxRecDepth 100000 in
theorem cw_X5_45 : q_CS RX5 45 yJ7_fill_d0a16 cJ7_fill_d0a16 5 none 2 := ⟨Or.inl (List.mem_of_getElem? (i := 724) (by decide +kernel)), List.mem_of_getElem? (i := 568) (by decide +kernel), List.mem_of_getElem? (i := 569) (by decide +kernel), List.mem_of_getElem? (i := 80) (by decide +kernel), ⟨by decide +kernel, by decide +kernel, by decide +kernel⟩⟩
set_option maxRecDepth 100000 in
theorem cw_L_118 : q_CV RL 118 7 yX7_tear cX7_tear 2 (some .boolean) 1 := ⟨⟨TX7, 11, q_ok7⟩, Or.inl (List.mem_of_getElem? (i := 725) (by decide +kernel)), List.mem_of_getElem? (i := 726) (by decide +kernel), List.mem_of_getElem? (i := 727) (by decide +kernel), List.mem_of_getElem? (i := 728) (by decide +kernel), List.mem_of_getElem? (i := 70) (by decide +kernel), ⟨by decide +kernel, by decide +kernel, by decide +kernel⟩⟩
set_option maxRecDepth 100000 in
theorem cw_X7_249 : q_CV RX7 249 5 yX5_clear cX5_clear 2 (some .boolean) 1 := ⟨⟨TX5, 3, q_ok5⟩, Or.inr ⟨"HopBeams", List.mem_of_getElem? (i := 729) (by decide +kernel)⟩, List.mem_of_getElem? (i := 731) (by decide +kernel), List.mem_of_getElem? (i := 49) (by decide +kernel), List.mem_of_getElem? (i := 732) (by decide +kernel), List.mem_of_getElem? (i := 73) (by decide +kernel), ⟨by decide +kernel, by decide +kernel, by decide +kernel⟩⟩
set_option maxRecDepth 100000 in
theorem cw_L_125 : q_CV RL 125 7 yX7_write cX7_write 5 (some .int) 3 := ⟨⟨TX7, 11, q_ok7⟩, Or.inl (List.mem_of_getElem? (i := 733) (by decide +kernel)), List.mem_of_getElem? (i := 734) (by decide +kernel), List.mem_of_getElem? (i := 735) (by decide +kernel), List.mem_of_getElem? (i := 736) (by decide +kernel), List.mem_of_getElem? (i := 70) (by decide +kernel), ⟨by decide +kernel, by decide +kernel, by decide +kernel⟩⟩
set_option maxRecDepth 100000 in
theorem cw_X7_252 : q_CV RX7 252 5 yX5_put cX5_put 5 (some .int) 3 := ⟨⟨TX5, 3, q_ok5⟩, Or.inr ⟨"HopBeams", List.mem_of_getElem? (i := 737) (by decide +kernel)⟩, List.mem_of_getElem? (i := 739) (by decide +kernel), List.mem_of_getElem? (i := 50) (by decide +kernel), List.mem_of_getElem? (i := 740) (by decide +kernel), List.mem_of_getElem? (i := 73) (by decide +kernel), ⟨by decide +kernel, by decide +kernel, by decide +kernel⟩⟩
set_option maxRecDepth 100000 in
theorem cw_X5_51 : q_CS RX5 51 yX5_cut cX5_cut 3 (some .long) 2 := ⟨Or.inl (List.mem_of_getElem? (i := 741) (by decide +kernel)), List.mem_of_getElem? (i := 742) (by decide +kernel), List.mem_of_getElem? (i := 743) (by decide +kernel), List.mem_of_getElem? (i := 73) (by decide +kernel), ⟨by decide +kernel, by decide +kernel, by decide +kernel⟩⟩
set_option maxRecDepth 100000 in
theorem cw_L_130 : q_CV RL 130 7 yX7_paste cX7_paste 6 (some .int) 5 := ⟨⟨TX7, 11, q_ok7⟩, Or.inl (List.mem_of_getElem? (i := 744) (by decide +kernel)), List.mem_of_getElem? (i := 745) (by decide +kernel), List.mem_of_getElem? (i := 746) (by decide +kernel), List.mem_of_getElem? (i := 747) (by decide +kernel), List.mem_of_getElem? (i := 70) (by decide +kernel), ⟨by decide +kernel, by decide +kernel, by decide +kernel⟩⟩
set_option maxRecDepth 100000 in
theorem cw_X7_256 : q_CV RX7 256 5 yX5_copy cX5_copy 6 (some .int) 5 := ⟨⟨TX5, 3, q_ok5⟩, Or.inr ⟨"HopBeams", List.mem_of_getElem? (i := 748) (by decide +kernel)⟩, List.mem_of_getElem? (i := 750) (by decide +kernel), List.mem_of_getElem? (i := 51) (by decide +kernel), List.mem_of_getElem? (i := 751) (by decide +kernel), List.mem_of_getElem? (i := 73) (by decide +kernel), ⟨by decide +kernel, by decide +kernel, by decide +kernel⟩⟩
set_option maxRecDepth 100000 in
theorem wl_X5_55 : Cond.methodLink RX5 55 arraycopyName ∈ lw_tbl := List.mem_of_getElem? (i := 752) (by decide +kernel)
set_option maxRecDepth 100000 in
theorem kl_L_10 : Cond.classLink RL 10 RX8 ∈ lw_tbl := List.mem_of_getElem? (i := 755) (by decide +kernel)
set_option maxRecDepth 100000 in
theorem in_X8 : Cond.instantiable RX8 48 ∈ lw_tbl := List.mem_of_getElem? (i := 756) (by decide +kernel)
set_option maxRecDepth 100000 in
theorem cw_L_12 : q_CI RL 12 yX8_init cX8_init 1 0 := ⟨Or.inl (List.mem_of_getElem? (i := 757) (by decide +kernel)), rfl, List.mem_of_getElem? (i := 758) (by decide +kernel), List.mem_of_getElem? (i := 759) (by decide +kernel), List.mem_of_getElem? (i := 75) (by decide +kernel), ⟨by decide +kernel, by decide +kernel, by decide +kernel⟩⟩
set_option maxRecDepth 100000 in
theorem wl_X8_1 : Cond.methodLink RX8 1 objectInit ∈ lw_tbl := List.mem_of_getElem? (i := 760) (by decide +kernel)
set_option maxRecDepth 100000 in
theorem kw_X8_97 : Cond.constant RX8 97 (50000) ∈ lw_tbl := List.mem_of_getElem? (i := 761) (by decide +kernel)
set_option maxRecDepth 100000 in
theorem fl_X8_137 : q_FL RX8 137 8 0 := ⟨RX8, TX8, 48, q_ok8, by decide, rfl, Or.inl (List.mem_of_getElem? (i := 762) (by decide +kernel))⟩
theorem fw_X8_137 : q_FW RX8 137 8 0 := ⟨RX8, TX8, 48, q_ok8, by decide, rfl, rfl, (by obtain ⟨C, T, N, o1, o2, o3, o4⟩ := fl_X8_137; have e := Option.some.inj (o1.1.symm.trans q_ok8.1); cases e; exact o4)⟩
set_option maxRecDepth 100000 in
theorem fl_X8_9 : q_FL RX8 9 8 1 := ⟨RX8, TX8, 48, q_ok8, by decide, rfl, Or.inl (List.mem_of_getElem? (i := 763) (by decide +kernel))⟩
set_option maxRecDepth 100000 in
theorem ff_X8_9 : q_FF RX8 9 8 1 := ⟨RX8, TX8, 48, q_ok8, by decide, rfl, rfl, rfl, List.mem_of_getElem? (i := 763) (by decide +kernel)⟩
set_option maxRecDepth 100000 in
theorem fl_X8_13 : q_FL RX8 13 8 2 := ⟨RX8, TX8, 48, q_ok8, by decide, rfl, Or.inl (List.mem_of_getElem? (i := 764) (by decide +kernel))⟩
set_option maxRecDepth 100000 in
theorem ff_X8_13 : q_FF RX8 13 8 2 := ⟨RX8, TX8, 48, q_ok8, by decide, rfl, rfl, rfl, List.mem_of_getElem? (i := 764) (by decide +kernel)⟩
set_option maxRecDepth 100000 in
theorem fl_X8_16 : q_FL RX8 16 8 3 := ⟨RX8, TX8, 48, q_ok8, by decide, rfl, Or.inl (List.mem_of_getElem? (i := 765) (by decide +kernel))⟩
set_option maxRecDepth 100000 in
theorem ff_X8_16 : q_FF RX8 16 8 3 := ⟨RX8, TX8, 48, q_ok8, by decide, rfl, rfl, rfl, List.mem_of_getElem? (i := 765) (by decide +kernel)⟩
set_option maxRecDepth 100000 in
theorem fl_X8_20 : q_FL RX8 20 8 4 := ⟨RX8, TX8, 48, q_ok8, by decide, rfl, Or.inl (List.mem_of_getElem? (i := 766) (by decide +kernel))⟩
set_option maxRecDepth 100000 in
theorem ff_X8_20 : q_FF RX8 20 8 4 := ⟨RX8, TX8, 48, q_ok8, by decide, rfl, rfl, rfl, List.mem_of_getElem? (i := 766) (by decide +kernel)⟩
set_option maxRecDepth 100000 in
theorem fl_X8_154 : q_FL RX8 154 8 5 := ⟨RX8, TX8, 48, q_ok8, by decide, rfl, Or.inl (List.mem_of_getElem? (i := 767) (by decide +kernel))⟩
theorem fw_X8_154 : q_FW RX8 154 8 5 := ⟨RX8, TX8, 48, q_ok8, by decide, rfl, rfl, (by obtain ⟨C, T, N, o1, o2, o3, o4⟩ := fl_X8_154; have e := Option.some.inj (o1.1.symm.trans q_ok8.1); cases e; exact o4)⟩
set_option maxRecDepth 100000 in
theorem fl_X8_23 : q_FL RX8 23 8 6 := ⟨RX8, TX8, 48, q_ok8, by decide, rfl, Or.inl (List.mem_of_getElem? (i := 768) (by decide +kernel))⟩
theorem fw_X8_23 : q_FW RX8 23 8 6 := ⟨RX8, TX8, 48, q_ok8, by decide, rfl, rfl, (by obtain ⟨C, T, N, o1, o2, o3, o4⟩ := fl_X8_23; have e := Option.some.inj (o1.1.symm.trans q_ok8.1); cases e; exact o4)⟩
set_option maxRecDepth 100000 in
theorem fl_X8_27 : q_FL RX8 27 8 7 := ⟨RX8, TX8, 48, q_ok8, by decide, rfl, Or.inl (List.mem_of_getElem? (i := 769) (by decide +kernel))⟩
theorem fw_X8_27 : q_FW RX8 27 8 7 := ⟨RX8, TX8, 48, q_ok8, by decide, rfl, rfl, (by obtain ⟨C, T, N, o1, o2, o3, o4⟩ := fl_X8_27; have e := Option.some.inj (o1.1.symm.trans q_ok8.1); cases e; exact o4)⟩
set_option maxRecDepth 100000 in
theorem fl_X8_30 : q_FL RX8 30 8 8 := ⟨RX8, TX8, 48, q_ok8, by decide, rfl, Or.inl (List.mem_of_getElem? (i := 770) (by decide +kernel))⟩
theorem fw_X8_30 : q_FW RX8 30 8 8 := ⟨RX8, TX8, 48, q_ok8, by decide, rfl, rfl, (by obtain ⟨C, T, N, o1, o2, o3, o4⟩ := fl_X8_30; have e := Option.some.inj (o1.1.symm.trans q_ok8.1); cases e; exact o4)⟩
set_option maxRecDepth 100000 in
theorem fl_X8_33 : q_FL RX8 33 8 9 := ⟨RX8, TX8, 48, q_ok8, by decide, rfl, Or.inl (List.mem_of_getElem? (i := 771) (by decide +kernel))⟩
theorem fw_X8_33 : q_FW RX8 33 8 9 := ⟨RX8, TX8, 48, q_ok8, by decide, rfl, rfl, (by obtain ⟨C, T, N, o1, o2, o3, o4⟩ := fl_X8_33; have e := Option.some.inj (o1.1.symm.trans q_ok8.1); cases e; exact o4)⟩
set_option maxRecDepth 100000 in
theorem fl_X8_253 : q_FL RX8 253 8 10 := ⟨RX8, TX8, 48, q_ok8, by decide, rfl, Or.inl (List.mem_of_getElem? (i := 772) (by decide +kernel))⟩
theorem fw_X8_253 : q_FW RX8 253 8 10 := ⟨RX8, TX8, 48, q_ok8, by decide, rfl, rfl, (by obtain ⟨C, T, N, o1, o2, o3, o4⟩ := fl_X8_253; have e := Option.some.inj (o1.1.symm.trans q_ok8.1); cases e; exact o4)⟩
set_option maxRecDepth 100000 in
theorem fl_X8_250 : q_FL RX8 250 8 11 := ⟨RX8, TX8, 48, q_ok8, by decide, rfl, Or.inl (List.mem_of_getElem? (i := 773) (by decide +kernel))⟩
theorem fw_X8_250 : q_FW RX8 250 8 11 := ⟨RX8, TX8, 48, q_ok8, by decide, rfl, rfl, (by obtain ⟨C, T, N, o1, o2, o3, o4⟩ := fl_X8_250; have e := Option.some.inj (o1.1.symm.trans q_ok8.1); cases e; exact o4)⟩
set_option maxRecDepth 100000 in
theorem fl_X8_36 : q_FL RX8 36 8 12 := ⟨RX8, TX8, 48, q_ok8, by decide, rfl, Or.inl (List.mem_of_getElem? (i := 774) (by decide +kernel))⟩
theorem fw_X8_36 : q_FW RX8 36 8 12 := ⟨RX8, TX8, 48, q_ok8, by decide, rfl, rfl, (by obtain ⟨C, T, N, o1, o2, o3, o4⟩ := fl_X8_36; have e := Option.some.inj (o1.1.symm.trans q_ok8.1); cases e; exact o4)⟩
set_option maxRecDepth 100000 in
theorem fl_X8_199 : q_FL RX8 199 8 13 := ⟨RX8, TX8, 48, q_ok8, by decide, rfl, Or.inl (List.mem_of_getElem? (i := 775) (by decide +kernel))⟩
theorem fw_X8_199 : q_FW RX8 199 8 13 := ⟨RX8, TX8, 48, q_ok8, by decide, rfl, rfl, (by obtain ⟨C, T, N, o1, o2, o3, o4⟩ := fl_X8_199; have e := Option.some.inj (o1.1.symm.trans q_ok8.1); cases e; exact o4)⟩
set_option maxRecDepth 100000 in
theorem fl_X8_196 : q_FL RX8 196 8 14 := ⟨RX8, TX8, 48, q_ok8, by decide, rfl, Or.inl (List.mem_of_getElem? (i := 776) (by decide +kernel))⟩
theorem fw_X8_196 : q_FW RX8 196 8 14 := ⟨RX8, TX8, 48, q_ok8, by decide, rfl, rfl, (by obtain ⟨C, T, N, o1, o2, o3, o4⟩ := fl_X8_196; have e := Option.some.inj (o1.1.symm.trans q_ok8.1); cases e; exact o4)⟩
set_option maxRecDepth 100000 in
theorem fl_X8_39 : q_FL RX8 39 8 15 := ⟨RX8, TX8, 48, q_ok8, by decide, rfl, Or.inl (List.mem_of_getElem? (i := 777) (by decide +kernel))⟩
set_option maxRecDepth 100000 in
theorem ff_X8_39 : q_FF RX8 39 8 15 := ⟨RX8, TX8, 48, q_ok8, by decide, rfl, rfl, rfl, List.mem_of_getElem? (i := 777) (by decide +kernel)⟩
set_option maxRecDepth 100000 in
theorem fl_X8_42 : q_FL RX8 42 8 16 := ⟨RX8, TX8, 48, q_ok8, by decide, rfl, Or.inl (List.mem_of_getElem? (i := 778) (by decide +kernel))⟩
set_option maxRecDepth 100000 in
theorem ff_X8_42 : q_FF RX8 42 8 16 := ⟨RX8, TX8, 48, q_ok8, by decide, rfl, rfl, rfl, List.mem_of_getElem? (i := 778) (by decide +kernel)⟩
set_option maxRecDepth 100000 in
theorem fl_X8_45 : q_FL RX8 45 8 17 := ⟨RX8, TX8, 48, q_ok8, by decide, rfl, Or.inl (List.mem_of_getElem? (i := 779) (by decide +kernel))⟩
set_option maxRecDepth 100000 in
theorem ff_X8_45 : q_FF RX8 45 8 17 := ⟨RX8, TX8, 48, q_ok8, by decide, rfl, rfl, rfl, List.mem_of_getElem? (i := 779) (by decide +kernel)⟩
set_option maxRecDepth 100000 in
theorem fl_X8_48 : q_FL RX8 48 8 18 := ⟨RX8, TX8, 48, q_ok8, by decide, rfl, Or.inl (List.mem_of_getElem? (i := 780) (by decide +kernel))⟩
set_option maxRecDepth 100000 in
theorem ff_X8_48 : q_FF RX8 48 8 18 := ⟨RX8, TX8, 48, q_ok8, by decide, rfl, rfl, rfl, List.mem_of_getElem? (i := 780) (by decide +kernel)⟩
set_option maxRecDepth 100000 in
theorem fl_X8_51 : q_FL RX8 51 8 19 := ⟨RX8, TX8, 48, q_ok8, by decide, rfl, Or.inl (List.mem_of_getElem? (i := 781) (by decide +kernel))⟩
set_option maxRecDepth 100000 in
theorem ff_X8_51 : q_FF RX8 51 8 19 := ⟨RX8, TX8, 48, q_ok8, by decide, rfl, rfl, rfl, List.mem_of_getElem? (i := 781) (by decide +kernel)⟩
set_option maxRecDepth 100000 in
theorem fl_X8_54 : q_FL RX8 54 8 20 := ⟨RX8, TX8, 48, q_ok8, by decide, rfl, Or.inl (List.mem_of_getElem? (i := 782) (by decide +kernel))⟩
set_option maxRecDepth 100000 in
theorem ff_X8_54 : q_FF RX8 54 8 20 := ⟨RX8, TX8, 48, q_ok8, by decide, rfl, rfl, rfl, List.mem_of_getElem? (i := 782) (by decide +kernel)⟩
set_option maxRecDepth 100000 in
theorem fl_X8_57 : q_FL RX8 57 8 21 := ⟨RX8, TX8, 48, q_ok8, by decide, rfl, Or.inl (List.mem_of_getElem? (i := 783) (by decide +kernel))⟩
set_option maxRecDepth 100000 in
theorem ff_X8_57 : q_FF RX8 57 8 21 := ⟨RX8, TX8, 48, q_ok8, by decide, rfl, rfl, rfl, List.mem_of_getElem? (i := 783) (by decide +kernel)⟩
set_option maxRecDepth 100000 in
theorem fl_X8_60 : q_FL RX8 60 8 22 := ⟨RX8, TX8, 48, q_ok8, by decide, rfl, Or.inl (List.mem_of_getElem? (i := 784) (by decide +kernel))⟩
set_option maxRecDepth 100000 in
theorem ff_X8_60 : q_FF RX8 60 8 22 := ⟨RX8, TX8, 48, q_ok8, by decide, rfl, rfl, rfl, List.mem_of_getElem? (i := 784) (by decide +kernel)⟩
set_option maxRecDepth 100000 in
theorem fl_X8_63 : q_FL RX8 63 8 23 := ⟨RX8, TX8, 48, q_ok8, by decide, rfl, Or.inl (List.mem_of_getElem? (i := 785) (by decide +kernel))⟩
set_option maxRecDepth 100000 in
theorem ff_X8_63 : q_FF RX8 63 8 23 := ⟨RX8, TX8, 48, q_ok8, by decide, rfl, rfl, rfl, List.mem_of_getElem? (i := 785) (by decide +kernel)⟩
set_option maxRecDepth 100000 in
theorem fl_X8_66 : q_FL RX8 66 8 24 := ⟨RX8, TX8, 48, q_ok8, by decide, rfl, Or.inl (List.mem_of_getElem? (i := 786) (by decide +kernel))⟩
set_option maxRecDepth 100000 in
theorem ff_X8_66 : q_FF RX8 66 8 24 := ⟨RX8, TX8, 48, q_ok8, by decide, rfl, rfl, rfl, List.mem_of_getElem? (i := 786) (by decide +kernel)⟩
set_option maxRecDepth 100000 in
theorem fl_X8_69 : q_FL RX8 69 8 25 := ⟨RX8, TX8, 48, q_ok8, by decide, rfl, Or.inl (List.mem_of_getElem? (i := 787) (by decide +kernel))⟩
set_option maxRecDepth 100000 in
theorem ff_X8_69 : q_FF RX8 69 8 25 := ⟨RX8, TX8, 48, q_ok8, by decide, rfl, rfl, rfl, List.mem_of_getElem? (i := 787) (by decide +kernel)⟩
set_option maxRecDepth 100000 in
theorem fl_X8_72 : q_FL RX8 72 8 26 := ⟨RX8, TX8, 48, q_ok8, by decide, rfl, Or.inl (List.mem_of_getElem? (i := 788) (by decide +kernel))⟩
set_option maxRecDepth 100000 in
theorem ff_X8_72 : q_FF RX8 72 8 26 := ⟨RX8, TX8, 48, q_ok8, by decide, rfl, rfl, rfl, List.mem_of_getElem? (i := 788) (by decide +kernel)⟩
set_option maxRecDepth 100000 in
theorem fl_X8_75 : q_FL RX8 75 8 27 := ⟨RX8, TX8, 48, q_ok8, by decide, rfl, Or.inl (List.mem_of_getElem? (i := 789) (by decide +kernel))⟩
set_option maxRecDepth 100000 in
theorem ff_X8_75 : q_FF RX8 75 8 27 := ⟨RX8, TX8, 48, q_ok8, by decide, rfl, rfl, rfl, List.mem_of_getElem? (i := 789) (by decide +kernel)⟩
set_option maxRecDepth 100000 in
theorem fl_X8_78 : q_FL RX8 78 8 28 := ⟨RX8, TX8, 48, q_ok8, by decide, rfl, Or.inl (List.mem_of_getElem? (i := 790) (by decide +kernel))⟩
set_option maxRecDepth 100000 in
theorem ff_X8_78 : q_FF RX8 78 8 28 := ⟨RX8, TX8, 48, q_ok8, by decide, rfl, rfl, rfl, List.mem_of_getElem? (i := 790) (by decide +kernel)⟩
set_option maxRecDepth 100000 in
theorem fl_X8_82 : q_FL RX8 82 8 29 := ⟨RX8, TX8, 48, q_ok8, by decide, rfl, Or.inl (List.mem_of_getElem? (i := 791) (by decide +kernel))⟩
set_option maxRecDepth 100000 in
theorem ff_X8_82 : q_FF RX8 82 8 29 := ⟨RX8, TX8, 48, q_ok8, by decide, rfl, rfl, rfl, List.mem_of_getElem? (i := 791) (by decide +kernel)⟩
set_option maxRecDepth 100000 in
theorem fl_X8_85 : q_FL RX8 85 8 30 := ⟨RX8, TX8, 48, q_ok8, by decide, rfl, Or.inl (List.mem_of_getElem? (i := 792) (by decide +kernel))⟩
set_option maxRecDepth 100000 in
theorem ff_X8_85 : q_FF RX8 85 8 30 := ⟨RX8, TX8, 48, q_ok8, by decide, rfl, rfl, rfl, List.mem_of_getElem? (i := 792) (by decide +kernel)⟩
set_option maxRecDepth 100000 in
theorem fl_X8_88 : q_FL RX8 88 8 31 := ⟨RX8, TX8, 48, q_ok8, by decide, rfl, Or.inl (List.mem_of_getElem? (i := 793) (by decide +kernel))⟩
set_option maxRecDepth 100000 in
theorem ff_X8_88 : q_FF RX8 88 8 31 := ⟨RX8, TX8, 48, q_ok8, by decide, rfl, rfl, rfl, List.mem_of_getElem? (i := 793) (by decide +kernel)⟩
set_option maxRecDepth 100000 in
theorem fl_X8_91 : q_FL RX8 91 8 32 := ⟨RX8, TX8, 48, q_ok8, by decide, rfl, Or.inl (List.mem_of_getElem? (i := 794) (by decide +kernel))⟩
set_option maxRecDepth 100000 in
theorem ff_X8_91 : q_FF RX8 91 8 32 := ⟨RX8, TX8, 48, q_ok8, by decide, rfl, rfl, rfl, List.mem_of_getElem? (i := 794) (by decide +kernel)⟩
set_option maxRecDepth 100000 in
theorem fl_X8_94 : q_FL RX8 94 8 33 := ⟨RX8, TX8, 48, q_ok8, by decide, rfl, Or.inl (List.mem_of_getElem? (i := 795) (by decide +kernel))⟩
set_option maxRecDepth 100000 in
theorem ff_X8_94 : q_FF RX8 94 8 33 := ⟨RX8, TX8, 48, q_ok8, by decide, rfl, rfl, rfl, List.mem_of_getElem? (i := 795) (by decide +kernel)⟩
set_option maxRecDepth 100000 in
theorem fl_X8_98 : q_FL RX8 98 8 34 := ⟨RX8, TX8, 48, q_ok8, by decide, rfl, Or.inl (List.mem_of_getElem? (i := 796) (by decide +kernel))⟩
set_option maxRecDepth 100000 in
theorem ff_X8_98 : q_FF RX8 98 8 34 := ⟨RX8, TX8, 48, q_ok8, by decide, rfl, rfl, rfl, List.mem_of_getElem? (i := 796) (by decide +kernel)⟩
set_option maxRecDepth 100000 in
theorem fl_X8_101 : q_FL RX8 101 8 35 := ⟨RX8, TX8, 48, q_ok8, by decide, rfl, Or.inl (List.mem_of_getElem? (i := 797) (by decide +kernel))⟩
set_option maxRecDepth 100000 in
theorem ff_X8_101 : q_FF RX8 101 8 35 := ⟨RX8, TX8, 48, q_ok8, by decide, rfl, rfl, rfl, List.mem_of_getElem? (i := 797) (by decide +kernel)⟩
set_option maxRecDepth 100000 in
theorem fl_X8_104 : q_FL RX8 104 8 36 := ⟨RX8, TX8, 48, q_ok8, by decide, rfl, Or.inl (List.mem_of_getElem? (i := 798) (by decide +kernel))⟩
set_option maxRecDepth 100000 in
theorem ff_X8_104 : q_FF RX8 104 8 36 := ⟨RX8, TX8, 48, q_ok8, by decide, rfl, rfl, rfl, List.mem_of_getElem? (i := 798) (by decide +kernel)⟩
set_option maxRecDepth 100000 in
theorem fl_X8_107 : q_FL RX8 107 8 37 := ⟨RX8, TX8, 48, q_ok8, by decide, rfl, Or.inl (List.mem_of_getElem? (i := 799) (by decide +kernel))⟩
set_option maxRecDepth 100000 in
theorem ff_X8_107 : q_FF RX8 107 8 37 := ⟨RX8, TX8, 48, q_ok8, by decide, rfl, rfl, rfl, List.mem_of_getElem? (i := 799) (by decide +kernel)⟩
set_option maxRecDepth 100000 in
theorem fl_X8_110 : q_FL RX8 110 8 38 := ⟨RX8, TX8, 48, q_ok8, by decide, rfl, Or.inl (List.mem_of_getElem? (i := 800) (by decide +kernel))⟩
set_option maxRecDepth 100000 in
theorem ff_X8_110 : q_FF RX8 110 8 38 := ⟨RX8, TX8, 48, q_ok8, by decide, rfl, rfl, rfl, List.mem_of_getElem? (i := 800) (by decide +kernel)⟩
set_option maxRecDepth 100000 in
theorem fl_X8_113 : q_FL RX8 113 8 39 := ⟨RX8, TX8, 48, q_ok8, by decide, rfl, Or.inl (List.mem_of_getElem? (i := 801) (by decide +kernel))⟩
set_option maxRecDepth 100000 in
theorem ff_X8_113 : q_FF RX8 113 8 39 := ⟨RX8, TX8, 48, q_ok8, by decide, rfl, rfl, rfl, List.mem_of_getElem? (i := 801) (by decide +kernel)⟩
set_option maxRecDepth 100000 in
theorem fl_X8_116 : q_FL RX8 116 8 40 := ⟨RX8, TX8, 48, q_ok8, by decide, rfl, Or.inl (List.mem_of_getElem? (i := 802) (by decide +kernel))⟩
set_option maxRecDepth 100000 in
theorem ff_X8_116 : q_FF RX8 116 8 40 := ⟨RX8, TX8, 48, q_ok8, by decide, rfl, rfl, rfl, List.mem_of_getElem? (i := 802) (by decide +kernel)⟩
set_option maxRecDepth 100000 in
theorem fl_X8_119 : q_FL RX8 119 8 41 := ⟨RX8, TX8, 48, q_ok8, by decide, rfl, Or.inl (List.mem_of_getElem? (i := 803) (by decide +kernel))⟩
set_option maxRecDepth 100000 in
theorem ff_X8_119 : q_FF RX8 119 8 41 := ⟨RX8, TX8, 48, q_ok8, by decide, rfl, rfl, rfl, List.mem_of_getElem? (i := 803) (by decide +kernel)⟩
set_option maxRecDepth 100000 in
theorem fl_X8_122 : q_FL RX8 122 8 42 := ⟨RX8, TX8, 48, q_ok8, by decide, rfl, Or.inl (List.mem_of_getElem? (i := 804) (by decide +kernel))⟩
set_option maxRecDepth 100000 in
theorem ff_X8_122 : q_FF RX8 122 8 42 := ⟨RX8, TX8, 48, q_ok8, by decide, rfl, rfl, rfl, List.mem_of_getElem? (i := 804) (by decide +kernel)⟩
set_option maxRecDepth 100000 in
theorem fl_X8_125 : q_FL RX8 125 8 43 := ⟨RX8, TX8, 48, q_ok8, by decide, rfl, Or.inl (List.mem_of_getElem? (i := 805) (by decide +kernel))⟩
set_option maxRecDepth 100000 in
theorem ff_X8_125 : q_FF RX8 125 8 43 := ⟨RX8, TX8, 48, q_ok8, by decide, rfl, rfl, rfl, List.mem_of_getElem? (i := 805) (by decide +kernel)⟩
set_option maxRecDepth 100000 in
theorem fl_X8_128 : q_FL RX8 128 8 44 := ⟨RX8, TX8, 48, q_ok8, by decide, rfl, Or.inl (List.mem_of_getElem? (i := 806) (by decide +kernel))⟩
set_option maxRecDepth 100000 in
theorem ff_X8_128 : q_FF RX8 128 8 44 := ⟨RX8, TX8, 48, q_ok8, by decide, rfl, rfl, rfl, List.mem_of_getElem? (i := 806) (by decide +kernel)⟩
set_option maxRecDepth 100000 in
theorem fl_X8_131 : q_FL RX8 131 8 45 := ⟨RX8, TX8, 48, q_ok8, by decide, rfl, Or.inl (List.mem_of_getElem? (i := 807) (by decide +kernel))⟩
set_option maxRecDepth 100000 in
theorem ff_X8_131 : q_FF RX8 131 8 45 := ⟨RX8, TX8, 48, q_ok8, by decide, rfl, rfl, rfl, List.mem_of_getElem? (i := 807) (by decide +kernel)⟩
set_option maxRecDepth 100000 in
theorem fl_X8_246 : q_FL RX8 246 8 46 := ⟨RX8, TX8, 48, q_ok8, by decide, rfl, Or.inl (List.mem_of_getElem? (i := 808) (by decide +kernel))⟩
theorem fw_X8_246 : q_FW RX8 246 8 46 := ⟨RX8, TX8, 48, q_ok8, by decide, rfl, rfl, (by obtain ⟨C, T, N, o1, o2, o3, o4⟩ := fl_X8_246; have e := Option.some.inj (o1.1.symm.trans q_ok8.1); cases e; exact o4)⟩
set_option maxRecDepth 100000 in
theorem fl_X8_134 : q_FL RX8 134 8 47 := ⟨RX8, TX8, 48, q_ok8, by decide, rfl, Or.inl (List.mem_of_getElem? (i := 809) (by decide +kernel))⟩
set_option maxRecDepth 100000 in
theorem ff_X8_134 : q_FF RX8 134 8 47 := ⟨RX8, TX8, 48, q_ok8, by decide, rfl, rfl, rfl, List.mem_of_getElem? (i := 809) (by decide +kernel)⟩
set_option maxRecDepth 100000 in
theorem cw_L_117 : q_CV RL 117 8 yX8_row cX8_row 5 (some .int) 3 := ⟨⟨TX8, 48, q_ok8⟩, Or.inl (List.mem_of_getElem? (i := 907) (by decide +kernel)), List.mem_of_getElem? (i := 908) (by decide +kernel), List.mem_of_getElem? (i := 909) (by decide +kernel), List.mem_of_getElem? (i := 910) (by decide +kernel), List.mem_of_getElem? (i := 75) (by decide +kernel), ⟨by decide +kernel, by decide +kernel, by decide +kernel⟩⟩
set_option maxRecDepth 100000 in
theorem cw_X8_146 : q_CS RX8 146 yX8_isPlace cX8_isPlace 1 (some .boolean) 1 := ⟨Or.inl (List.mem_of_getElem? (i := 911) (by decide +kernel)), List.mem_of_getElem? (i := 912) (by decide +kernel), List.mem_of_getElem? (i := 913) (by decide +kernel), List.mem_of_getElem? (i := 75) (by decide +kernel), ⟨by decide +kernel, by decide +kernel, by decide +kernel⟩⟩
set_option maxRecDepth 100000 in
theorem kw_X8_140 : Cond.constantLong RX8 140 (3) ∈ lw_tbl := List.mem_of_getElem? (i := 914) (by decide +kernel)
set_option maxRecDepth 100000 in
theorem cw_X8_142 : q_CS RX8 142 yX8_in cX8_in 6 (some .boolean) 3 := ⟨Or.inl (List.mem_of_getElem? (i := 915) (by decide +kernel)), List.mem_of_getElem? (i := 916) (by decide +kernel), List.mem_of_getElem? (i := 917) (by decide +kernel), List.mem_of_getElem? (i := 75) (by decide +kernel), ⟨by decide +kernel, by decide +kernel, by decide +kernel⟩⟩
set_option maxRecDepth 100000 in
theorem cw_L_122 : q_CV RL 122 8 yX8_tear cX8_tear 2 (some .boolean) 1 := ⟨⟨TX8, 48, q_ok8⟩, Or.inl (List.mem_of_getElem? (i := 918) (by decide +kernel)), List.mem_of_getElem? (i := 919) (by decide +kernel), List.mem_of_getElem? (i := 920) (by decide +kernel), List.mem_of_getElem? (i := 921) (by decide +kernel), List.mem_of_getElem? (i := 75) (by decide +kernel), ⟨by decide +kernel, by decide +kernel, by decide +kernel⟩⟩
set_option maxRecDepth 100000 in
theorem cw_L_129 : q_CV RL 129 8 yX8_write cX8_write 5 (some .int) 3 := ⟨⟨TX8, 48, q_ok8⟩, Or.inl (List.mem_of_getElem? (i := 922) (by decide +kernel)), List.mem_of_getElem? (i := 923) (by decide +kernel), List.mem_of_getElem? (i := 924) (by decide +kernel), List.mem_of_getElem? (i := 925) (by decide +kernel), List.mem_of_getElem? (i := 75) (by decide +kernel), ⟨by decide +kernel, by decide +kernel, by decide +kernel⟩⟩
set_option maxRecDepth 100000 in
theorem cw_X8_150 : q_CS RX8 150 yX8_cut cX8_cut 3 (some .long) 2 := ⟨Or.inl (List.mem_of_getElem? (i := 926) (by decide +kernel)), List.mem_of_getElem? (i := 927) (by decide +kernel), List.mem_of_getElem? (i := 928) (by decide +kernel), List.mem_of_getElem? (i := 75) (by decide +kernel), ⟨by decide +kernel, by decide +kernel, by decide +kernel⟩⟩
set_option maxRecDepth 100000 in
theorem cw_L_134 : q_CV RL 134 8 yX8_paste cX8_paste 7 (some .int) 5 := ⟨⟨TX8, 48, q_ok8⟩, Or.inl (List.mem_of_getElem? (i := 929) (by decide +kernel)), List.mem_of_getElem? (i := 930) (by decide +kernel), List.mem_of_getElem? (i := 931) (by decide +kernel), List.mem_of_getElem? (i := 932) (by decide +kernel), List.mem_of_getElem? (i := 75) (by decide +kernel), ⟨by decide +kernel, by decide +kernel, by decide +kernel⟩⟩
set_option maxRecDepth 100000 in
theorem cw_L_17 : q_CV RL 17 8 yX8_terms cX8_terms 5 (some .int) 4 := ⟨⟨TX8, 48, q_ok8⟩, Or.inl (List.mem_of_getElem? (i := 933) (by decide +kernel)), List.mem_of_getElem? (i := 934) (by decide +kernel), List.mem_of_getElem? (i := 935) (by decide +kernel), List.mem_of_getElem? (i := 936) (by decide +kernel), List.mem_of_getElem? (i := 75) (by decide +kernel), ⟨by decide +kernel, by decide +kernel, by decide +kernel⟩⟩
set_option maxRecDepth 100000 in
theorem kw_X8_157 : Cond.constantLong RX8 157 (4) ∈ lw_tbl := List.mem_of_getElem? (i := 937) (by decide +kernel)
set_option maxRecDepth 100000 in
theorem kw_X8_159 : Cond.constantLong RX8 159 (1000) ∈ lw_tbl := List.mem_of_getElem? (i := 938) (by decide +kernel)
set_option maxRecDepth 100000 in
theorem kw_X8_161 : Cond.constantLong RX8 161 (20) ∈ lw_tbl := List.mem_of_getElem? (i := 939) (by decide +kernel)
set_option maxRecDepth 100000 in
theorem kw_X8_163 : Cond.constantLong RX8 163 (9) ∈ lw_tbl := List.mem_of_getElem? (i := 940) (by decide +kernel)
set_option maxRecDepth 100000 in
theorem cw_L_21 : q_CV RL 21 8 yX8_cell cX8_cell 5 (some .int) 4 := ⟨⟨TX8, 48, q_ok8⟩, Or.inl (List.mem_of_getElem? (i := 941) (by decide +kernel)), List.mem_of_getElem? (i := 942) (by decide +kernel), List.mem_of_getElem? (i := 943) (by decide +kernel), List.mem_of_getElem? (i := 944) (by decide +kernel), List.mem_of_getElem? (i := 75) (by decide +kernel), ⟨by decide +kernel, by decide +kernel, by decide +kernel⟩⟩
set_option maxRecDepth 100000 in
theorem kw_X8_165 : Cond.constantLong RX8 165 (100) ∈ lw_tbl := List.mem_of_getElem? (i := 945) (by decide +kernel)
set_option maxRecDepth 100000 in
theorem kw_X8_167 : Cond.constantLong RX8 167 (2) ∈ lw_tbl := List.mem_of_getElem? (i := 946) (by decide +kernel)
set_option maxRecDepth 100000 in
theorem cw_L_26 : q_CV RL 26 8 yX8_forbid cX8_forbid 4 (some .boolean) 3 := ⟨⟨TX8, 48, q_ok8⟩, Or.inl (List.mem_of_getElem? (i := 947) (by decide +kernel)), List.mem_of_getElem? (i := 948) (by decide +kernel), List.mem_of_getElem? (i := 949) (by decide +kernel), List.mem_of_getElem? (i := 950) (by decide +kernel), List.mem_of_getElem? (i := 75) (by decide +kernel), ⟨by decide +kernel, by decide +kernel, by decide +kernel⟩⟩
set_option maxRecDepth 100000 in
theorem cw_X8_169 : q_CV RX8 169 8 yX8_isCell cX8_isCell 2 (some .boolean) 1 := ⟨⟨TX8, 48, q_ok8⟩, Or.inl (List.mem_of_getElem? (i := 951) (by decide +kernel)), List.mem_of_getElem? (i := 953) (by decide +kernel), List.mem_of_getElem? (i := 52) (by decide +kernel), List.mem_of_getElem? (i := 954) (by decide +kernel), List.mem_of_getElem? (i := 75) (by decide +kernel), ⟨by decide +kernel, by decide +kernel, by decide +kernel⟩⟩
set_option maxRecDepth 100000 in
theorem cw_L_31 : q_CV RL 31 8 yX8_rain cX8_rain 4 (some .int) 2 := ⟨⟨TX8, 48, q_ok8⟩, Or.inl (List.mem_of_getElem? (i := 955) (by decide +kernel)), List.mem_of_getElem? (i := 956) (by decide +kernel), List.mem_of_getElem? (i := 957) (by decide +kernel), List.mem_of_getElem? (i := 958) (by decide +kernel), List.mem_of_getElem? (i := 75) (by decide +kernel), ⟨by decide +kernel, by decide +kernel, by decide +kernel⟩⟩
set_option maxRecDepth 100000 in
theorem cw_L_36 : q_CV RL 36 8 yX8_gateway cX8_gateway 4 (some .int) 3 := ⟨⟨TX8, 48, q_ok8⟩, Or.inl (List.mem_of_getElem? (i := 959) (by decide +kernel)), List.mem_of_getElem? (i := 960) (by decide +kernel), List.mem_of_getElem? (i := 961) (by decide +kernel), List.mem_of_getElem? (i := 962) (by decide +kernel), List.mem_of_getElem? (i := 75) (by decide +kernel), ⟨by decide +kernel, by decide +kernel, by decide +kernel⟩⟩
set_option maxRecDepth 100000 in
theorem cw_X8_172 : q_CS RX8 172 yX8_isGate cX8_isGate 1 (some .boolean) 1 := ⟨Or.inl (List.mem_of_getElem? (i := 963) (by decide +kernel)), List.mem_of_getElem? (i := 964) (by decide +kernel), List.mem_of_getElem? (i := 965) (by decide +kernel), List.mem_of_getElem? (i := 75) (by decide +kernel), ⟨by decide +kernel, by decide +kernel, by decide +kernel⟩⟩
set_option maxRecDepth 100000 in
theorem kw_X8_175 : Cond.constantLong RX8 175 (10) ∈ lw_tbl := List.mem_of_getElem? (i := 966) (by decide +kernel)
set_option maxRecDepth 100000 in
theorem cw_L_40 : q_CV RL 40 8 yX8_swap cX8_swap 3 (some .int) 2 := ⟨⟨TX8, 48, q_ok8⟩, Or.inl (List.mem_of_getElem? (i := 967) (by decide +kernel)), List.mem_of_getElem? (i := 968) (by decide +kernel), List.mem_of_getElem? (i := 969) (by decide +kernel), List.mem_of_getElem? (i := 970) (by decide +kernel), List.mem_of_getElem? (i := 75) (by decide +kernel), ⟨by decide +kernel, by decide +kernel, by decide +kernel⟩⟩
set_option maxRecDepth 100000 in
theorem cw_L_45 : q_CV RL 45 8 yX8_needs cX8_needs 4 (some .int) 1 := ⟨⟨TX8, 48, q_ok8⟩, Or.inl (List.mem_of_getElem? (i := 971) (by decide +kernel)), List.mem_of_getElem? (i := 972) (by decide +kernel), List.mem_of_getElem? (i := 973) (by decide +kernel), List.mem_of_getElem? (i := 974) (by decide +kernel), List.mem_of_getElem? (i := 75) (by decide +kernel), ⟨by decide +kernel, by decide +kernel, by decide +kernel⟩⟩
set_option maxRecDepth 100000 in
theorem cw_X8_177 : q_CV RX8 177 8 yX8_refuses cX8_refuses 5 (some .int) 2 := ⟨⟨TX8, 48, q_ok8⟩, Or.inl (List.mem_of_getElem? (i := 975) (by decide +kernel)), List.mem_of_getElem? (i := 977) (by decide +kernel), List.mem_of_getElem? (i := 53) (by decide +kernel), List.mem_of_getElem? (i := 978) (by decide +kernel), List.mem_of_getElem? (i := 75) (by decide +kernel), ⟨by decide +kernel, by decide +kernel, by decide +kernel⟩⟩
set_option maxRecDepth 100000 in
theorem cw_X8_181 : q_CV RX8 181 8 yX8_total cX8_total 4 (some .int) 1 := ⟨⟨TX8, 48, q_ok8⟩, Or.inl (List.mem_of_getElem? (i := 979) (by decide +kernel)), List.mem_of_getElem? (i := 981) (by decide +kernel), List.mem_of_getElem? (i := 54) (by decide +kernel), List.mem_of_getElem? (i := 982) (by decide +kernel), List.mem_of_getElem? (i := 75) (by decide +kernel), ⟨by decide +kernel, by decide +kernel, by decide +kernel⟩⟩
set_option maxRecDepth 100000 in
theorem cw_L_49 : q_CV RL 49 8 yX8_asks cX8_asks 4 (some .int) 1 := ⟨⟨TX8, 48, q_ok8⟩, Or.inl (List.mem_of_getElem? (i := 983) (by decide +kernel)), List.mem_of_getElem? (i := 984) (by decide +kernel), List.mem_of_getElem? (i := 985) (by decide +kernel), List.mem_of_getElem? (i := 986) (by decide +kernel), List.mem_of_getElem? (i := 75) (by decide +kernel), ⟨by decide +kernel, by decide +kernel, by decide +kernel⟩⟩
set_option maxRecDepth 100000 in
theorem cw_L_53 : q_CV RL 53 8 yX8_legal cX8_legal 2 (some .int) 1 := ⟨⟨TX8, 48, q_ok8⟩, Or.inl (List.mem_of_getElem? (i := 987) (by decide +kernel)), List.mem_of_getElem? (i := 988) (by decide +kernel), List.mem_of_getElem? (i := 989) (by decide +kernel), List.mem_of_getElem? (i := 990) (by decide +kernel), List.mem_of_getElem? (i := 75) (by decide +kernel), ⟨by decide +kernel, by decide +kernel, by decide +kernel⟩⟩
set_option maxRecDepth 100000 in
theorem cw_X8_189 : q_CV RX8 189 8 yX8_isSet cX8_isSet 3 (some .boolean) 1 := ⟨⟨TX8, 48, q_ok8⟩, Or.inl (List.mem_of_getElem? (i := 991) (by decide +kernel)), List.mem_of_getElem? (i := 993) (by decide +kernel), List.mem_of_getElem? (i := 55) (by decide +kernel), List.mem_of_getElem? (i := 994) (by decide +kernel), List.mem_of_getElem? (i := 75) (by decide +kernel), ⟨by decide +kernel, by decide +kernel, by decide +kernel⟩⟩
set_option maxRecDepth 100000 in
theorem cw_X8_193 : q_CV RX8 193 8 yX8_isLegal cX8_isLegal 8 (some .boolean) 1 := ⟨⟨TX8, 48, q_ok8⟩, Or.inl (List.mem_of_getElem? (i := 995) (by decide +kernel)), List.mem_of_getElem? (i := 997) (by decide +kernel), List.mem_of_getElem? (i := 56) (by decide +kernel), List.mem_of_getElem? (i := 998) (by decide +kernel), List.mem_of_getElem? (i := 75) (by decide +kernel), ⟨by decide +kernel, by decide +kernel, by decide +kernel⟩⟩
set_option maxRecDepth 100000 in
theorem cw_X8_185 : q_CV RX8 185 8 yX8_powerNow cX8_powerNow 2 (some .int) 1 := ⟨⟨TX8, 48, q_ok8⟩, Or.inl (List.mem_of_getElem? (i := 999) (by decide +kernel)), List.mem_of_getElem? (i := 1001) (by decide +kernel), List.mem_of_getElem? (i := 57) (by decide +kernel), List.mem_of_getElem? (i := 1002) (by decide +kernel), List.mem_of_getElem? (i := 75) (by decide +kernel), ⟨by decide +kernel, by decide +kernel, by decide +kernel⟩⟩
set_option maxRecDepth 100000 in
theorem cw_L_58 : q_CV RL 58 8 yX8_sets cX8_sets 3 (some .int) 0 := ⟨⟨TX8, 48, q_ok8⟩, Or.inl (List.mem_of_getElem? (i := 1003) (by decide +kernel)), List.mem_of_getElem? (i := 1004) (by decide +kernel), List.mem_of_getElem? (i := 1005) (by decide +kernel), List.mem_of_getElem? (i := 1006) (by decide +kernel), List.mem_of_getElem? (i := 75) (by decide +kernel), ⟨by decide +kernel, by decide +kernel, by decide +kernel⟩⟩
set_option maxRecDepth 100000 in
theorem cw_L_62 : q_CV RL 62 8 yX8_fewest cX8_fewest 6 (some .int) 0 := ⟨⟨TX8, 48, q_ok8⟩, Or.inl (List.mem_of_getElem? (i := 1007) (by decide +kernel)), List.mem_of_getElem? (i := 1008) (by decide +kernel), List.mem_of_getElem? (i := 1009) (by decide +kernel), List.mem_of_getElem? (i := 1010) (by decide +kernel), List.mem_of_getElem? (i := 75) (by decide +kernel), ⟨by decide +kernel, by decide +kernel, by decide +kernel⟩⟩
set_option maxRecDepth 100000 in
theorem cw_X8_202 : q_CV RX8 202 8 yX8_sumOf cX8_sumOf 3 (some .int) 0 := ⟨⟨TX8, 48, q_ok8⟩, Or.inl (List.mem_of_getElem? (i := 1011) (by decide +kernel)), List.mem_of_getElem? (i := 1013) (by decide +kernel), List.mem_of_getElem? (i := 58) (by decide +kernel), List.mem_of_getElem? (i := 1014) (by decide +kernel), List.mem_of_getElem? (i := 75) (by decide +kernel), ⟨by decide +kernel, by decide +kernel, by decide +kernel⟩⟩
set_option maxRecDepth 100000 in
theorem cw_X8_206 : q_CV RX8 206 8 yX8_lays cX8_lays 5 none 3 := ⟨⟨TX8, 48, q_ok8⟩, Or.inl (List.mem_of_getElem? (i := 1015) (by decide +kernel)), List.mem_of_getElem? (i := 1017) (by decide +kernel), List.mem_of_getElem? (i := 59) (by decide +kernel), List.mem_of_getElem? (i := 1018) (by decide +kernel), List.mem_of_getElem? (i := 75) (by decide +kernel), ⟨by decide +kernel, by decide +kernel, by decide +kernel⟩⟩
set_option maxRecDepth 100000 in
theorem cw_X8_210 : q_CV RX8 210 8 yX8_isWhole cX8_isWhole 4 (some .boolean) 2 := ⟨⟨TX8, 48, q_ok8⟩, Or.inl (List.mem_of_getElem? (i := 1019) (by decide +kernel)), List.mem_of_getElem? (i := 1021) (by decide +kernel), List.mem_of_getElem? (i := 60) (by decide +kernel), List.mem_of_getElem? (i := 1022) (by decide +kernel), List.mem_of_getElem? (i := 75) (by decide +kernel), ⟨by decide +kernel, by decide +kernel, by decide +kernel⟩⟩
set_option maxRecDepth 100000 in
theorem cw_X8_214 : q_CV RX8 214 8 yX8_told cX8_told 6 (some .int) 2 := ⟨⟨TX8, 48, q_ok8⟩, Or.inl (List.mem_of_getElem? (i := 1023) (by decide +kernel)), List.mem_of_getElem? (i := 1025) (by decide +kernel), List.mem_of_getElem? (i := 61) (by decide +kernel), List.mem_of_getElem? (i := 1026) (by decide +kernel), List.mem_of_getElem? (i := 75) (by decide +kernel), ⟨by decide +kernel, by decide +kernel, by decide +kernel⟩⟩
set_option maxRecDepth 100000 in
theorem cw_X8_218 : q_CV RX8 218 8 yX8_isNew cX8_isNew 4 (some .boolean) 1 := ⟨⟨TX8, 48, q_ok8⟩, Or.inl (List.mem_of_getElem? (i := 1027) (by decide +kernel)), List.mem_of_getElem? (i := 1029) (by decide +kernel), List.mem_of_getElem? (i := 62) (by decide +kernel), List.mem_of_getElem? (i := 1030) (by decide +kernel), List.mem_of_getElem? (i := 75) (by decide +kernel), ⟨by decide +kernel, by decide +kernel, by decide +kernel⟩⟩
set_option maxRecDepth 100000 in
theorem cw_L_66 : q_CV RL 66 8 yX8_frame cX8_frame 2 (some .int) 1 := ⟨⟨TX8, 48, q_ok8⟩, Or.inl (List.mem_of_getElem? (i := 1031) (by decide +kernel)), List.mem_of_getElem? (i := 1032) (by decide +kernel), List.mem_of_getElem? (i := 1033) (by decide +kernel), List.mem_of_getElem? (i := 1034) (by decide +kernel), List.mem_of_getElem? (i := 75) (by decide +kernel), ⟨by decide +kernel, by decide +kernel, by decide +kernel⟩⟩
set_option maxRecDepth 100000 in
theorem cw_L_70 : q_CV RL 70 8 yX8_frameOf cX8_frameOf 4 (some .int) 1 := ⟨⟨TX8, 48, q_ok8⟩, Or.inl (List.mem_of_getElem? (i := 1035) (by decide +kernel)), List.mem_of_getElem? (i := 1036) (by decide +kernel), List.mem_of_getElem? (i := 1037) (by decide +kernel), List.mem_of_getElem? (i := 1038) (by decide +kernel), List.mem_of_getElem? (i := 75) (by decide +kernel), ⟨by decide +kernel, by decide +kernel, by decide +kernel⟩⟩
set_option maxRecDepth 100000 in
theorem cw_X8_221 : q_CS RX8 221 yJ9_min_7cf53 cJ9_min_7cf53 2 (some .int) 2 := ⟨Or.inl (List.mem_of_getElem? (i := 1039) (by decide +kernel)), List.mem_of_getElem? (i := 402) (by decide +kernel), List.mem_of_getElem? (i := 403) (by decide +kernel), List.mem_of_getElem? (i := 78) (by decide +kernel), ⟨by decide +kernel, by decide +kernel, by decide +kernel⟩⟩
set_option maxRecDepth 100000 in
theorem cw_L_75 : q_CV RL 75 8 yX8_proof cX8_proof 11 (some .long) 1 := ⟨⟨TX8, 48, q_ok8⟩, Or.inl (List.mem_of_getElem? (i := 1040) (by decide +kernel)), List.mem_of_getElem? (i := 1041) (by decide +kernel), List.mem_of_getElem? (i := 1042) (by decide +kernel), List.mem_of_getElem? (i := 1043) (by decide +kernel), List.mem_of_getElem? (i := 75) (by decide +kernel), ⟨by decide +kernel, by decide +kernel, by decide +kernel⟩⟩
set_option maxRecDepth 100000 in
theorem kw_X8_226 : Cond.constantLong RX8 226 (1000000) ∈ lw_tbl := List.mem_of_getElem? (i := 1044) (by decide +kernel)
set_option maxRecDepth 100000 in
theorem cw_X8_228 : q_CS RX8 228 yJ9_max_f86c9 cJ9_max_f86c9 4 (some .long) 2 := ⟨Or.inl (List.mem_of_getElem? (i := 1045) (by decide +kernel)), List.mem_of_getElem? (i := 1046) (by decide +kernel), List.mem_of_getElem? (i := 1047) (by decide +kernel), List.mem_of_getElem? (i := 78) (by decide +kernel), ⟨by decide +kernel, by decide +kernel, by decide +kernel⟩⟩
set_option maxRecDepth 100000 in
theorem kw_X8_232 : Cond.constantLong RX8 232 (-1) ∈ lw_tbl := List.mem_of_getElem? (i := 1048) (by decide +kernel)
set_option maxRecDepth 100000 in
theorem cw_L_79 : q_CV RL 79 8 yX8_ways cX8_ways 7 (some .int) 1 := ⟨⟨TX8, 48, q_ok8⟩, Or.inl (List.mem_of_getElem? (i := 1049) (by decide +kernel)), List.mem_of_getElem? (i := 1050) (by decide +kernel), List.mem_of_getElem? (i := 1051) (by decide +kernel), List.mem_of_getElem? (i := 1052) (by decide +kernel), List.mem_of_getElem? (i := 75) (by decide +kernel), ⟨by decide +kernel, by decide +kernel, by decide +kernel⟩⟩
set_option maxRecDepth 100000 in
theorem kw_X8_236 : Cond.constantLong RX8 236 (24) ∈ lw_tbl := List.mem_of_getElem? (i := 1053) (by decide +kernel)
set_option maxRecDepth 100000 in
theorem cw_X8_238 : q_CS RX8 238 yX8_multiplies cX8_multiplies 5 none 2 := ⟨Or.inl (List.mem_of_getElem? (i := 1054) (by decide +kernel)), List.mem_of_getElem? (i := 1055) (by decide +kernel), List.mem_of_getElem? (i := 1056) (by decide +kernel), List.mem_of_getElem? (i := 75) (by decide +kernel), ⟨by decide +kernel, by decide +kernel, by decide +kernel⟩⟩
set_option maxRecDepth 100000 in
theorem kw_X8_234 : Cond.constantLong RX8 234 (1000000000) ∈ lw_tbl := List.mem_of_getElem? (i := 1057) (by decide +kernel)
set_option maxRecDepth 100000 in
theorem cw_X8_242 : q_CS RX8 242 yX8_adds cX8_adds 5 none 2 := ⟨Or.inl (List.mem_of_getElem? (i := 1058) (by decide +kernel)), List.mem_of_getElem? (i := 1059) (by decide +kernel), List.mem_of_getElem? (i := 1060) (by decide +kernel), List.mem_of_getElem? (i := 75) (by decide +kernel), ⟨by decide +kernel, by decide +kernel, by decide +kernel⟩⟩
set_option maxRecDepth 100000 in
theorem kw_X8_249 : Cond.constant RX8 249 (1000000000) ∈ lw_tbl := List.mem_of_getElem? (i := 1061) (by decide +kernel)
set_option maxRecDepth 100000 in
theorem cw_L_83 : q_CV RL 83 8 yX8_digit cX8_digit 2 (some .int) 1 := ⟨⟨TX8, 48, q_ok8⟩, Or.inl (List.mem_of_getElem? (i := 1062) (by decide +kernel)), List.mem_of_getElem? (i := 1063) (by decide +kernel), List.mem_of_getElem? (i := 1064) (by decide +kernel), List.mem_of_getElem? (i := 1065) (by decide +kernel), List.mem_of_getElem? (i := 75) (by decide +kernel), ⟨by decide +kernel, by decide +kernel, by decide +kernel⟩⟩
set_option maxRecDepth 100000 in
theorem cw_L_87 : q_CV RL 87 8 yX8_rule cX8_rule 3 (some .int) 1 := ⟨⟨TX8, 48, q_ok8⟩, Or.inl (List.mem_of_getElem? (i := 1066) (by decide +kernel)), List.mem_of_getElem? (i := 1067) (by decide +kernel), List.mem_of_getElem? (i := 1068) (by decide +kernel), List.mem_of_getElem? (i := 1069) (by decide +kernel), List.mem_of_getElem? (i := 75) (by decide +kernel), ⟨by decide +kernel, by decide +kernel, by decide +kernel⟩⟩
set_option maxRecDepth 100000 in
theorem cw_L_91 : q_CV RL 91 8 yX8_go cX8_go 3 (some .int) 1 := ⟨⟨TX8, 48, q_ok8⟩, Or.inl (List.mem_of_getElem? (i := 1070) (by decide +kernel)), List.mem_of_getElem? (i := 1071) (by decide +kernel), List.mem_of_getElem? (i := 1072) (by decide +kernel), List.mem_of_getElem? (i := 1073) (by decide +kernel), List.mem_of_getElem? (i := 75) (by decide +kernel), ⟨by decide +kernel, by decide +kernel, by decide +kernel⟩⟩
set_option maxRecDepth 100000 in
theorem kw_X8_274 : Cond.constantLong RX8 274 (200) ∈ lw_tbl := List.mem_of_getElem? (i := 1074) (by decide +kernel)
set_option maxRecDepth 100000 in
theorem cw_X8_276 : q_CV RX8 276 8 yX8_goesBy cX8_goesBy 4 none 0 := ⟨⟨TX8, 48, q_ok8⟩, Or.inl (List.mem_of_getElem? (i := 1075) (by decide +kernel)), List.mem_of_getElem? (i := 1077) (by decide +kernel), List.mem_of_getElem? (i := 63) (by decide +kernel), List.mem_of_getElem? (i := 1078) (by decide +kernel), List.mem_of_getElem? (i := 75) (by decide +kernel), ⟨by decide +kernel, by decide +kernel, by decide +kernel⟩⟩
set_option maxRecDepth 100000 in
theorem cw_X8_256 : q_CV RX8 256 8 yX8_waiting cX8_waiting 4 (some .int) 1 := ⟨⟨TX8, 48, q_ok8⟩, Or.inl (List.mem_of_getElem? (i := 1079) (by decide +kernel)), List.mem_of_getElem? (i := 1081) (by decide +kernel), List.mem_of_getElem? (i := 64) (by decide +kernel), List.mem_of_getElem? (i := 1082) (by decide +kernel), List.mem_of_getElem? (i := 75) (by decide +kernel), ⟨by decide +kernel, by decide +kernel, by decide +kernel⟩⟩
set_option maxRecDepth 100000 in
theorem cw_X8_259 : q_CV RX8 259 8 yX8_rateNow cX8_rateNow 2 (some .int) 1 := ⟨⟨TX8, 48, q_ok8⟩, Or.inl (List.mem_of_getElem? (i := 1083) (by decide +kernel)), List.mem_of_getElem? (i := 1085) (by decide +kernel), List.mem_of_getElem? (i := 65) (by decide +kernel), List.mem_of_getElem? (i := 1086) (by decide +kernel), List.mem_of_getElem? (i := 75) (by decide +kernel), ⟨by decide +kernel, by decide +kernel, by decide +kernel⟩⟩
set_option maxRecDepth 100000 in
theorem cw_X8_262 : q_CV RX8 262 8 yX8_byFrame cX8_byFrame 3 (some .int) 0 := ⟨⟨TX8, 48, q_ok8⟩, Or.inl (List.mem_of_getElem? (i := 1087) (by decide +kernel)), List.mem_of_getElem? (i := 1089) (by decide +kernel), List.mem_of_getElem? (i := 66) (by decide +kernel), List.mem_of_getElem? (i := 1090) (by decide +kernel), List.mem_of_getElem? (i := 75) (by decide +kernel), ⟨by decide +kernel, by decide +kernel, by decide +kernel⟩⟩
set_option maxRecDepth 100000 in
theorem cw_X8_265 : q_CV RX8 265 8 yX8_byWeight cX8_byWeight 8 (some .int) 0 := ⟨⟨TX8, 48, q_ok8⟩, Or.inl (List.mem_of_getElem? (i := 1091) (by decide +kernel)), List.mem_of_getElem? (i := 1093) (by decide +kernel), List.mem_of_getElem? (i := 67) (by decide +kernel), List.mem_of_getElem? (i := 1094) (by decide +kernel), List.mem_of_getElem? (i := 75) (by decide +kernel), ⟨by decide +kernel, by decide +kernel, by decide +kernel⟩⟩
set_option maxRecDepth 100000 in
theorem cw_X8_268 : q_CV RX8 268 8 yX8_sends cX8_sends 5 none 1 := ⟨⟨TX8, 48, q_ok8⟩, Or.inl (List.mem_of_getElem? (i := 1095) (by decide +kernel)), List.mem_of_getElem? (i := 1097) (by decide +kernel), List.mem_of_getElem? (i := 68) (by decide +kernel), List.mem_of_getElem? (i := 1098) (by decide +kernel), List.mem_of_getElem? (i := 75) (by decide +kernel), ⟨by decide +kernel, by decide +kernel, by decide +kernel⟩⟩
set_option maxRecDepth 100000 in
theorem cw_X8_272 : q_CS RX8 272 yJ9_max_7cf53 cJ9_max_7cf53 2 (some .int) 2 := ⟨Or.inl (List.mem_of_getElem? (i := 1099) (by decide +kernel)), List.mem_of_getElem? (i := 662) (by decide +kernel), List.mem_of_getElem? (i := 663) (by decide +kernel), List.mem_of_getElem? (i := 78) (by decide +kernel), ⟨by decide +kernel, by decide +kernel, by decide +kernel⟩⟩
set_option maxRecDepth 100000 in
theorem cw_L_95 : q_CV RL 95 8 yX8_lit cX8_lit 1 (some .int) 0 := ⟨⟨TX8, 48, q_ok8⟩, Or.inl (List.mem_of_getElem? (i := 1100) (by decide +kernel)), List.mem_of_getElem? (i := 1101) (by decide +kernel), List.mem_of_getElem? (i := 1102) (by decide +kernel), List.mem_of_getElem? (i := 1103) (by decide +kernel), List.mem_of_getElem? (i := 75) (by decide +kernel), ⟨by decide +kernel, by decide +kernel, by decide +kernel⟩⟩
set_option maxRecDepth 100000 in
theorem cw_L_99 : q_CV RL 99 8 yX8_cellOf cX8_cellOf 5 (some .int) 2 := ⟨⟨TX8, 48, q_ok8⟩, Or.inl (List.mem_of_getElem? (i := 1104) (by decide +kernel)), List.mem_of_getElem? (i := 1105) (by decide +kernel), List.mem_of_getElem? (i := 1106) (by decide +kernel), List.mem_of_getElem? (i := 1107) (by decide +kernel), List.mem_of_getElem? (i := 75) (by decide +kernel), ⟨by decide +kernel, by decide +kernel, by decide +kernel⟩⟩
set_option maxRecDepth 100000 in
theorem cw_L_104 : q_CV RL 104 8 yX8_units cX8_units 3 (some .long) 2 := ⟨⟨TX8, 48, q_ok8⟩, Or.inl (List.mem_of_getElem? (i := 1108) (by decide +kernel)), List.mem_of_getElem? (i := 1109) (by decide +kernel), List.mem_of_getElem? (i := 1110) (by decide +kernel), List.mem_of_getElem? (i := 1111) (by decide +kernel), List.mem_of_getElem? (i := 75) (by decide +kernel), ⟨by decide +kernel, by decide +kernel, by decide +kernel⟩⟩
set_option maxRecDepth 100000 in
theorem kw_X8_279 : Cond.constantLong RX8 279 (-2) ∈ lw_tbl := List.mem_of_getElem? (i := 1112) (by decide +kernel)
set_option maxRecDepth 100000 in
theorem cw_L_108 : q_CV RL 108 8 yX8_count cX8_count 4 (some .int) 1 := ⟨⟨TX8, 48, q_ok8⟩, Or.inl (List.mem_of_getElem? (i := 1113) (by decide +kernel)), List.mem_of_getElem? (i := 1114) (by decide +kernel), List.mem_of_getElem? (i := 1115) (by decide +kernel), List.mem_of_getElem? (i := 1116) (by decide +kernel), List.mem_of_getElem? (i := 75) (by decide +kernel), ⟨by decide +kernel, by decide +kernel, by decide +kernel⟩⟩
set_option maxRecDepth 100000 in
theorem cw_L_112 : q_CV RL 112 8 yX8_gatewayOf cX8_gatewayOf 5 (some .int) 2 := ⟨⟨TX8, 48, q_ok8⟩, Or.inl (List.mem_of_getElem? (i := 1117) (by decide +kernel)), List.mem_of_getElem? (i := 1118) (by decide +kernel), List.mem_of_getElem? (i := 1119) (by decide +kernel), List.mem_of_getElem? (i := 1120) (by decide +kernel), List.mem_of_getElem? (i := 75) (by decide +kernel), ⟨by decide +kernel, by decide +kernel, by decide +kernel⟩⟩
set_option maxRecDepth 100000 in
theorem kw_L_123 : Cond.constantLong RL 123 (4294967295) ∈ lw_tbl := List.mem_of_getElem? (i := 1121) (by decide +kernel)
set_option maxRecDepth 100000 in
theorem wi_oi : Cond.instanceMethod objectInit ∈ lw_tbl := List.mem_of_getElem? (i := 89) (by decide +kernel)
set_option maxRecDepth 100000 in
theorem wc_oi : Cond.code objectInit ⟨#[0xb1]⟩ 1 none ∈ lw_tbl := List.mem_of_getElem? (i := 90) (by decide +kernel)
