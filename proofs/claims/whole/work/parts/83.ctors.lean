/-! constructors -/
set_option maxHeartbeats 4000000 in
set_option maxRecDepth 100000 in
theorem c_X1_init {al : Nat → Bool} {f : Nat → Nat → Int32} {g : Nat → Nat → Int64} {r : Nat → Nat → Option Nat} (hthis : al 4 = true) (h21 : al 21 = false) (hc : q_cl al r) : q_ConN yX1_init cX1_init 1 none 1 20 1 90 tyX al [.ref 4] (f, g, r) (fun v al2 h' => v = none ∧ al2 = (va_up al 21 true) ∧ h' = ((va_up f 21 (fun _ => 0)), (va_up g 21 (fun _ => 0)), (q_up (va_up r 21 (fun _ => none)) 4 0 (some 21))) ∧ q_cl al2 h'.2.2) := by
  refine q_ConN.of RX1 [some (.ref 4)] (by decide +kernel) rfl rfl (Nat.le_of_ble_eq_true rfl) (fun C ad E V I0 Z => ?_)
  have I := I0 rfl
  have K := q_Kp.rf (al := al) (ad := ad)
  refine g_aload_0 (pc := 0) E dX1_init_0 ?_
  refine g_oi (pc := 1) E wl_X1_3 (by decide) (by decide) (Nat.le_of_ble_eq_true rfl) dX1_init_1 ?_
  refine g_aload_0 (pc := 4) E dX1_init_4 ?_
  refine g_bipush (pc := 5) (v := 90) E dX1_init_5 (by decide) ?_
  refine g_newI (pc := 7) (a := 21) E V (by decide) (by decide) (by decide) (by exact h21) hc rfl (by simp [q_okb, q_okv, va_up, q_alM, hthis]) (by decide) (by decide) dX1_init_7 (fun q E => ?_)
  have K := K.new (a := 21) (q := q) (by exact h21)
  have hc := hc.new (a := 21)
  refine g_putRF (pc := 9) E I (by first | rfl | assumption | exact hthis) (by first | rfl | assumption) ff_X1_9 rfl dX1_init_9 ?_
  have hc := hc.put (a := 4) (k := 0) (c := 21) (by rfl)
  exact g_vretN (pc := 12) E Z K (by decide) (by decide) dX1_init_12 ⟨rfl, rfl, rfl, hc⟩
set_option maxHeartbeats 4000000 in
set_option maxRecDepth 100000 in
theorem c_X2_init {al : Nat → Bool} {f : Nat → Nat → Int32} {g : Nat → Nat → Int64} {r : Nat → Nat → Option Nat} (hthis : al 1 = true) (h8 : al 8 = false) (h9 : al 9 = false) (h10 : al 10 = false) (hc : q_cl al r) : q_ConN yX2_init cX2_init 1 none 1 20 3 16 tyX al [.ref 1] (f, g, r) (fun v al2 h' => v = none ∧ al2 = (va_up (va_up (va_up al 8 true) 9 true) 10 true) ∧ h' = ((q_up (q_up (q_up (q_up (q_up (q_up (q_up (va_up (q_up (q_up (q_up (va_up (va_up f 8 (fun _ => 0)) 9 (fun _ => 0)) 9 0 (10)) 9 1 (10)) 9 2 (10)) 10 (fun _ => 0)) 10 0 (1)) 10 1 (1)) 10 2 (1)) 1 4 (2)) 1 5 (100)) 1 6 (8)) 1 7 (2)), (va_up (va_up (va_up g 8 (fun _ => 0)) 9 (fun _ => 0)) 10 (fun _ => 0)), (q_up (va_up (q_up (va_up (q_up (va_up r 8 (fun _ => none)) 1 0 (some 8)) 9 (fun _ => none)) 1 2 (some 9)) 10 (fun _ => none)) 1 3 (some 10))) ∧ q_cl al2 h'.2.2) := by
  refine q_ConN.of RX2 [some (.ref 1)] (by decide +kernel) rfl rfl (Nat.le_of_ble_eq_true rfl) (fun C ad E V I0 Z => ?_)
  have I := I0 rfl
  have K := q_Kp.rf (al := al) (ad := ad)
  refine g_aload_0 (pc := 0) E dX2_init_0 ?_
  refine g_oi (pc := 1) E wl_X2_3 (by decide) (by decide) (Nat.le_of_ble_eq_true rfl) dX2_init_1 ?_
  refine g_aload_0 (pc := 4) E dX2_init_4 ?_
  refine g_bipush (pc := 5) (v := 10) E dX2_init_5 (by decide) ?_
  refine g_anew (pc := 7) (a := 8) E V kl_X2_9 (by decide) (by decide) (by decide) (by exact h8) hc rfl (by simp [q_okb, q_okv, va_up, q_alM, hthis]) (by decide) (by decide) dX2_init_7 (fun q E => ?_)
  have K := K.new (a := 8) (q := q) (by exact h8)
  have hc := hc.new (a := 8)
  refine g_putRF (pc := 10) E I (by first | rfl | assumption | exact hthis) (by first | rfl | assumption) ff_X2_11 rfl dX2_init_10 ?_
  have hc := hc.put (a := 1) (k := 0) (c := 8) (by rfl)
  refine g_aload_0 (pc := 13) E dX2_init_13 ?_
  refine g_iconst (pc := 14) (v := 3) E dX2_init_14 (by decide) ?_
  refine g_newI (pc := 15) (a := 9) E V (by decide) (by decide) (by decide) (by exact h9) hc rfl (by simp [q_okb, q_okv, va_up, q_alM, hthis]) (by decide) (by decide) dX2_init_15 (fun q E => ?_)
  have K := K.new (a := 9) (q := q) (by exact h9)
  have hc := hc.new (a := 9)
  refine g_dupr (pc := 17) E dX2_init_17 ?_
  refine g_iconst (pc := 18) (v := 0) E dX2_init_18 (by decide) ?_
  refine g_bipush (pc := 19) (v := 10) E dX2_init_19 (by decide) ?_
  refine g_iast (pc := 21) E (by rfl) (by rfl) dX2_init_21 (q_ix_l (j := 0) (by decide)) ?_
  refine g_dupr (pc := 22) E dX2_init_22 ?_
  refine g_iconst (pc := 23) (v := 1) E dX2_init_23 (by decide) ?_
  refine g_bipush (pc := 24) (v := 10) E dX2_init_24 (by decide) ?_
  refine g_iast (pc := 26) E (by rfl) (by rfl) dX2_init_26 (q_ix_l (j := 1) (by decide)) ?_
  refine g_dupr (pc := 27) E dX2_init_27 ?_
  refine g_iconst (pc := 28) (v := 2) E dX2_init_28 (by decide) ?_
  refine g_bipush (pc := 29) (v := 10) E dX2_init_29 (by decide) ?_
  refine g_iast (pc := 31) E (by rfl) (by rfl) dX2_init_31 (q_ix_l (j := 2) (by decide)) ?_
  refine g_putRF (pc := 32) E I (by first | rfl | assumption | exact hthis) (by first | rfl | assumption) ff_X2_17 rfl dX2_init_32 ?_
  have hc := hc.put (a := 1) (k := 2) (c := 9) (by rfl)
  refine g_aload_0 (pc := 35) E dX2_init_35 ?_
  refine g_iconst (pc := 36) (v := 3) E dX2_init_36 (by decide) ?_
  refine g_newZ (pc := 37) (a := 10) E V (by decide) (by decide) (by decide) (by exact h10) hc rfl (by simp [q_okb, q_okv, va_up, q_alM, hthis]) (by decide) (by decide) dX2_init_37 (fun q E => ?_)
  have K := K.new (a := 10) (q := q) (by exact h10)
  have hc := hc.new (a := 10)
  refine g_dupr (pc := 39) E dX2_init_39 ?_
  refine g_iconst (pc := 40) (v := 0) E dX2_init_40 (by decide) ?_
  refine g_iconst (pc := 41) (v := 1) E dX2_init_41 (by decide) ?_
  refine g_zast (pc := 42) E (by rfl) (by rfl) dX2_init_42 (q_ix_l (j := 0) (by decide)) rfl ?_
  refine g_dupr (pc := 43) E dX2_init_43 ?_
  refine g_iconst (pc := 44) (v := 1) E dX2_init_44 (by decide) ?_
  refine g_iconst (pc := 45) (v := 1) E dX2_init_45 (by decide) ?_
  refine g_zast (pc := 46) E (by rfl) (by rfl) dX2_init_46 (q_ix_l (j := 1) (by decide)) rfl ?_
  refine g_dupr (pc := 47) E dX2_init_47 ?_
  refine g_iconst (pc := 48) (v := 2) E dX2_init_48 (by decide) ?_
  refine g_iconst (pc := 49) (v := 1) E dX2_init_49 (by decide) ?_
  refine g_zast (pc := 50) E (by rfl) (by rfl) dX2_init_50 (q_ix_l (j := 2) (by decide)) rfl ?_
  refine g_putRF (pc := 51) E I (by first | rfl | assumption | exact hthis) (by first | rfl | assumption) ff_X2_21 rfl dX2_init_51 ?_
  have hc := hc.put (a := 1) (k := 3) (c := 10) (by rfl)
  refine g_aload_0 (pc := 54) E dX2_init_54 ?_
  refine g_iconst (pc := 55) (v := 2) E dX2_init_55 (by decide) ?_
  refine g_putI (pc := 56) E (by first | rfl | assumption | exact hthis) (by first | rfl | assumption) fw_X2_25 rfl dX2_init_56 ?_
  refine g_aload_0 (pc := 59) E dX2_init_59 ?_
  refine g_bipush (pc := 60) (v := 100) E dX2_init_60 (by decide) ?_
  refine g_putI (pc := 62) E (by first | rfl | assumption | exact hthis) (by first | rfl | assumption) fw_X2_29 rfl dX2_init_62 ?_
  refine g_aload_0 (pc := 65) E dX2_init_65 ?_
  refine g_bipush (pc := 66) (v := 8) E dX2_init_66 (by decide) ?_
  refine g_putI (pc := 68) E (by first | rfl | assumption | exact hthis) (by first | rfl | assumption) fw_X2_32 rfl dX2_init_68 ?_
  refine g_aload_0 (pc := 71) E dX2_init_71 ?_
  refine g_iconst (pc := 72) (v := 2) E dX2_init_72 (by decide) ?_
  refine g_putI (pc := 73) E (by first | rfl | assumption | exact hthis) (by first | rfl | assumption) fw_X2_35 rfl dX2_init_73 ?_
  exact g_vretN (pc := 76) E Z K (by decide) (by decide) dX2_init_76 ⟨rfl, rfl, rfl, hc⟩
set_option maxHeartbeats 4000000 in
set_option maxRecDepth 100000 in
theorem c_X3_init {al : Nat → Bool} {f : Nat → Nat → Int32} {g : Nat → Nat → Int64} {r : Nat → Nat → Option Nat} (hthis : al 2 = true) (h11 : al 11 = false) (h12 : al 12 = false) (h13 : al 13 = false) (hc : q_cl al r) : q_ConN yX3_init cX3_init 1 none 1 20 3 2434 tyX al [.ref 2] (f, g, r) (fun v al2 h' => v = none ∧ al2 = (va_up (va_up (va_up al 11 true) 12 true) 13 true) ∧ h' = ((va_up (va_up (va_up f 11 (fun _ => 0)) 12 (fun _ => 0)) 13 (fun _ => 0)), (va_up (va_up (va_up g 11 (fun _ => 0)) 12 (fun _ => 0)) 13 (fun _ => 0)), (q_up (va_up (q_up (va_up (q_up (va_up r 11 (fun _ => none)) 2 0 (some 11)) 12 (fun _ => none)) 2 1 (some 12)) 13 (fun _ => none)) 2 3 (some 13))) ∧ q_cl al2 h'.2.2) := by
  refine q_ConN.of RX3 [some (.ref 2)] (by decide +kernel) rfl rfl (Nat.le_of_ble_eq_true rfl) (fun C ad E V I0 Z => ?_)
  have I := I0 rfl
  have K := q_Kp.rf (al := al) (ad := ad)
  refine g_aload_0 (pc := 0) E dX3_init_0 ?_
  refine g_oi (pc := 1) E wl_X3_3 (by decide) (by decide) (Nat.le_of_ble_eq_true rfl) dX3_init_1 ?_
  refine g_aload_0 (pc := 4) E dX3_init_4 ?_
  refine g_sipush (pc := 5) (v := 1024) E dX3_init_5 (by decide) ?_
  refine g_newZ (pc := 8) (a := 11) E V (by decide) (by decide) (by decide) (by exact h11) hc rfl (by simp [q_okb, q_okv, va_up, q_alM, hthis]) (by decide) (by decide) dX3_init_8 (fun q E => ?_)
  have K := K.new (a := 11) (q := q) (by exact h11)
  have hc := hc.new (a := 11)
  refine g_putRF (pc := 10) E I (by first | rfl | assumption | exact hthis) (by first | rfl | assumption) ff_X3_9 rfl dX3_init_10 ?_
  have hc := hc.put (a := 2) (k := 0) (c := 11) (by rfl)
  refine g_aload_0 (pc := 13) E dX3_init_13 ?_
  refine g_sipush (pc := 14) (v := 386) E dX3_init_14 (by decide) ?_
  refine g_newI (pc := 17) (a := 12) E V (by decide) (by decide) (by decide) (by exact h12) hc rfl (by simp [q_okb, q_okv, va_up, q_alM, hthis]) (by decide) (by decide) dX3_init_17 (fun q E => ?_)
  have K := K.new (a := 12) (q := q) (by exact h12)
  have hc := hc.new (a := 12)
  refine g_putRF (pc := 19) E I (by first | rfl | assumption | exact hthis) (by first | rfl | assumption) ff_X3_15 rfl dX3_init_19 ?_
  have hc := hc.put (a := 2) (k := 1) (c := 12) (by rfl)
  refine g_aload_0 (pc := 22) E dX3_init_22 ?_
  refine g_sipush (pc := 23) (v := 1024) E dX3_init_23 (by decide) ?_
  refine g_newI (pc := 26) (a := 13) E V (by decide) (by decide) (by decide) (by exact h13) hc rfl (by simp [q_okb, q_okv, va_up, q_alM, hthis]) (by decide) (by decide) dX3_init_26 (fun q E => ?_)
  have K := K.new (a := 13) (q := q) (by exact h13)
  have hc := hc.new (a := 13)
  refine g_putRF (pc := 28) E I (by first | rfl | assumption | exact hthis) (by first | rfl | assumption) ff_X3_19 rfl dX3_init_28 ?_
  have hc := hc.put (a := 2) (k := 3) (c := 13) (by rfl)
  exact g_vretN (pc := 31) E Z K (by decide) (by decide) dX3_init_31 ⟨rfl, rfl, rfl, hc⟩
set_option maxHeartbeats 4000000 in
set_option maxRecDepth 100000 in
theorem c_X4_init {al : Nat → Bool} {f : Nat → Nat → Int32} {g : Nat → Nat → Int64} {r : Nat → Nat → Option Nat} (hthis : al 5 = true) (h22 : al 22 = false) (h23 : al 23 = false) (h24 : al 24 = false) (h25 : al 25 = false) (h26 : al 26 = false) (h27 : al 27 = false) (hc : q_cl al r) : q_ConN yX4_init cX4_init 1 none 1 20 6 19350 tyX al [.ref 5] (f, g, r) (fun v al2 h' => v = none ∧ al2 = (va_up (va_up (va_up (va_up (va_up (va_up al 22 true) 23 true) 24 true) 25 true) 26 true) 27 true) ∧ h' = ((va_up (va_up (va_up (va_up (va_up (va_up f 22 (fun _ => 0)) 23 (fun _ => 0)) 24 (fun _ => 0)) 25 (fun _ => 0)) 26 (fun _ => 0)) 27 (fun _ => 0)), (va_up (va_up (va_up (va_up (va_up (va_up g 22 (fun _ => 0)) 23 (fun _ => 0)) 24 (fun _ => 0)) 25 (fun _ => 0)) 26 (fun _ => 0)) 27 (fun _ => 0)), (q_up (va_up (q_up (va_up (q_up (va_up (q_up (va_up (q_up (va_up (q_up (va_up r 22 (fun _ => none)) 5 0 (some 22)) 23 (fun _ => none)) 5 1 (some 23)) 24 (fun _ => none)) 5 3 (some 24)) 25 (fun _ => none)) 5 4 (some 25)) 26 (fun _ => none)) 5 5 (some 26)) 27 (fun _ => none)) 5 6 (some 27))) ∧ q_cl al2 h'.2.2) := by
  refine q_ConN.of RX4 [some (.ref 5)] (by decide +kernel) rfl rfl (Nat.le_of_ble_eq_true rfl) (fun C ad E V I0 Z => ?_)
  have I := I0 rfl
  have K := q_Kp.rf (al := al) (ad := ad)
  refine g_aload_0 (pc := 0) E dX4_init_0 ?_
  refine g_oi (pc := 1) E wl_X4_3 (by decide) (by decide) (Nat.le_of_ble_eq_true rfl) dX4_init_1 ?_
  refine g_aload_0 (pc := 4) E dX4_init_4 ?_
  refine g_sipush (pc := 5) (v := 5000) E dX4_init_5 (by decide) ?_
  refine g_newJ (pc := 8) (a := 22) E V (by decide) (by decide) (by decide) (by exact h22) hc rfl (by simp [q_okb, q_okv, va_up, q_alM, hthis]) (by decide) (by decide) dX4_init_8 (fun q E => ?_)
  have K := K.new (a := 22) (q := q) (by exact h22)
  have hc := hc.new (a := 22)
  refine g_putRF (pc := 10) E I (by first | rfl | assumption | exact hthis) (by first | rfl | assumption) ff_X4_9 rfl dX4_init_10 ?_
  have hc := hc.put (a := 5) (k := 0) (c := 22) (by rfl)
  refine g_aload_0 (pc := 13) E dX4_init_13 ?_
  refine g_sipush (pc := 14) (v := 5000) E dX4_init_14 (by decide) ?_
  refine g_newI (pc := 17) (a := 23) E V (by decide) (by decide) (by decide) (by exact h23) hc rfl (by simp [q_okb, q_okv, va_up, q_alM, hthis]) (by decide) (by decide) dX4_init_17 (fun q E => ?_)
  have K := K.new (a := 23) (q := q) (by exact h23)
  have hc := hc.new (a := 23)
  refine g_putRF (pc := 19) E I (by first | rfl | assumption | exact hthis) (by first | rfl | assumption) ff_X4_15 rfl dX4_init_19 ?_
  have hc := hc.put (a := 5) (k := 1) (c := 23) (by rfl)
  refine g_aload_0 (pc := 22) E dX4_init_22 ?_
  refine g_sipush (pc := 23) (v := 8192) E dX4_init_23 (by decide) ?_
  refine g_newI (pc := 26) (a := 24) E V (by decide) (by decide) (by decide) (by exact h24) hc rfl (by simp [q_okb, q_okv, va_up, q_alM, hthis]) (by decide) (by decide) dX4_init_26 (fun q E => ?_)
  have K := K.new (a := 24) (q := q) (by exact h24)
  have hc := hc.new (a := 24)
  refine g_putRF (pc := 28) E I (by first | rfl | assumption | exact hthis) (by first | rfl | assumption) ff_X4_19 rfl dX4_init_28 ?_
  have hc := hc.put (a := 5) (k := 3) (c := 24) (by rfl)
  refine g_aload_0 (pc := 31) E dX4_init_31 ?_
  refine g_sipush (pc := 32) (v := 386) E dX4_init_32 (by decide) ?_
  refine g_newI (pc := 35) (a := 25) E V (by decide) (by decide) (by decide) (by exact h25) hc rfl (by simp [q_okb, q_okv, va_up, q_alM, hthis]) (by decide) (by decide) dX4_init_35 (fun q E => ?_)
  have K := K.new (a := 25) (q := q) (by exact h25)
  have hc := hc.new (a := 25)
  refine g_putRF (pc := 37) E I (by first | rfl | assumption | exact hthis) (by first | rfl | assumption) ff_X4_22 rfl dX4_init_37 ?_
  have hc := hc.put (a := 5) (k := 4) (c := 25) (by rfl)
  refine g_aload_0 (pc := 40) E dX4_init_40 ?_
  refine g_sipush (pc := 41) (v := 386) E dX4_init_41 (by decide) ?_
  refine g_newJ (pc := 44) (a := 26) E V (by decide) (by decide) (by decide) (by exact h26) hc rfl (by simp [q_okb, q_okv, va_up, q_alM, hthis]) (by decide) (by decide) dX4_init_44 (fun q E => ?_)
  have K := K.new (a := 26) (q := q) (by exact h26)
  have hc := hc.new (a := 26)
  refine g_putRF (pc := 46) E I (by first | rfl | assumption | exact hthis) (by first | rfl | assumption) ff_X4_25 rfl dX4_init_46 ?_
  have hc := hc.put (a := 5) (k := 5) (c := 26) (by rfl)
  refine g_aload_0 (pc := 49) E dX4_init_49 ?_
  refine g_sipush (pc := 50) (v := 386) E dX4_init_50 (by decide) ?_
  refine g_newI (pc := 53) (a := 27) E V (by decide) (by decide) (by decide) (by exact h27) hc rfl (by simp [q_okb, q_okv, va_up, q_alM, hthis]) (by decide) (by decide) dX4_init_53 (fun q E => ?_)
  have K := K.new (a := 27) (q := q) (by exact h27)
  have hc := hc.new (a := 27)
  refine g_putRF (pc := 55) E I (by first | rfl | assumption | exact hthis) (by first | rfl | assumption) ff_X4_28 rfl dX4_init_55 ?_
  have hc := hc.put (a := 5) (k := 6) (c := 27) (by rfl)
  exact g_vretN (pc := 58) E Z K (by decide) (by decide) dX4_init_58 ⟨rfl, rfl, rfl, hc⟩
set_option maxHeartbeats 4000000 in
set_option maxRecDepth 100000 in
theorem c_X5_init {al : Nat → Bool} {f : Nat → Nat → Int32} {g : Nat → Nat → Int64} {r : Nat → Nat → Option Nat} (hthis : al 3 = true) (h19 : al 19 = false) (h20 : al 20 = false) (hfm : ∀ x, 14 ≤ x → x < 14 + 5 → al x = false) (hr0 : ∀ x, 14 < x → x < 14 + 5 → r x = fun _ => none) (hc : q_cl al r) : q_ConN yX5_init cX5_init 1 none 1 20 7 252 tyX al [.ref 3] (f, g, r) (fun v al2 h' => v = none ∧ al2 = (va_up (va_up (q_alM al 14) 19 true) 20 true) ∧ h' = ((q_up (q_up (q_up (q_up (va_up (va_up f 19 (fun _ => 0)) 20 (fun _ => 0)) 20 0 (-1)) 20 1 (-1)) 20 2 (-1)) 20 3 (-1)), (va_up (va_up (q_gM g 14) 19 (fun _ => 0)) 20 (fun _ => 0)), (q_up (va_up (q_up (va_up (q_up (q_rM r 14) 3 0 (some 14)) 19 (fun _ => none)) 3 1 (some 19)) 20 (fun _ => none)) 3 2 (some 20))) ∧ q_cl al2 h'.2.2) := by
  refine q_ConN.of RX5 [some (.ref 3)] (by decide +kernel) rfl rfl (Nat.le_of_ble_eq_true rfl) (fun C ad E V I0 Z => ?_)
  have I := I0 rfl
  have K := q_Kp.rf (al := al) (ad := ad)
  refine g_aload_0 (pc := 0) E dX5_init_0 ?_
  refine g_oi (pc := 1) E wl_X5_3 (by decide) (by decide) (Nat.le_of_ble_eq_true rfl) dX5_init_1 ?_
  refine g_aload_0 (pc := 4) E dX5_init_4 ?_
  refine g_iconst (pc := 5) (v := 4) E dX5_init_5 (by decide) ?_
  refine g_bipush (pc := 6) (v := 60) E dX5_init_6 (by decide) ?_
  refine g_multi (pc := 8) (o := 14) E V kl_X5_11 hfm hc hr0 rfl (fun j hj => by match j, hj with | 0, _ => rfl | 1, _ => rfl | 2, _ => rfl | 3, _ => rfl) (by simp [q_okb, q_okv, va_up, q_alM, hthis]) (by decide) (by decide) dX5_init_8 (fun q E => ?_)
  have K := K.multi (o := 14) (z := q) hfm
  have hc := hc.multi (o := 14) hfm hr0
  refine g_putRF (pc := 12) E I (by first | rfl | assumption | exact hthis) (by first | rfl | assumption) ff_X5_13 rfl dX5_init_12 ?_
  have hc := hc.put (a := 3) (k := 0) (c := 14) (by rfl)
  refine g_aload_0 (pc := 15) E dX5_init_15 ?_
  refine g_iconst (pc := 16) (v := 4) E dX5_init_16 (by decide) ?_
  refine g_newI (pc := 17) (a := 19) E V (by decide) (by decide) (by decide) (by exact h19) hc rfl (by simp [q_okb, q_okv, va_up, q_alM, hthis]) (by decide) (by decide) dX5_init_17 (fun q E => ?_)
  have K := K.new (a := 19) (q := q) (by exact h19)
  have hc := hc.new (a := 19)
  refine g_putRF (pc := 19) E I (by first | rfl | assumption | exact hthis) (by first | rfl | assumption) ff_X5_16 rfl dX5_init_19 ?_
  have hc := hc.put (a := 3) (k := 1) (c := 19) (by rfl)
  refine g_aload_0 (pc := 22) E dX5_init_22 ?_
  refine g_iconst (pc := 23) (v := 4) E dX5_init_23 (by decide) ?_
  refine g_newI (pc := 24) (a := 20) E V (by decide) (by decide) (by decide) (by exact h20) hc rfl (by simp [q_okb, q_okv, va_up, q_alM, hthis]) (by decide) (by decide) dX5_init_24 (fun q E => ?_)
  have K := K.new (a := 20) (q := q) (by exact h20)
  have hc := hc.new (a := 20)
  refine g_dupr (pc := 26) E dX5_init_26 ?_
  refine g_iconst (pc := 27) (v := 0) E dX5_init_27 (by decide) ?_
  refine g_iconst (pc := 28) (v := -1) E dX5_init_28 (by decide) ?_
  refine g_iast (pc := 29) E (by rfl) (by rfl) dX5_init_29 (q_ix_l (j := 0) (by decide)) ?_
  refine g_dupr (pc := 30) E dX5_init_30 ?_
  refine g_iconst (pc := 31) (v := 1) E dX5_init_31 (by decide) ?_
  refine g_iconst (pc := 32) (v := -1) E dX5_init_32 (by decide) ?_
  refine g_iast (pc := 33) E (by rfl) (by rfl) dX5_init_33 (q_ix_l (j := 1) (by decide)) ?_
  refine g_dupr (pc := 34) E dX5_init_34 ?_
  refine g_iconst (pc := 35) (v := 2) E dX5_init_35 (by decide) ?_
  refine g_iconst (pc := 36) (v := -1) E dX5_init_36 (by decide) ?_
  refine g_iast (pc := 37) E (by rfl) (by rfl) dX5_init_37 (q_ix_l (j := 2) (by decide)) ?_
  refine g_dupr (pc := 38) E dX5_init_38 ?_
  refine g_iconst (pc := 39) (v := 3) E dX5_init_39 (by decide) ?_
  refine g_iconst (pc := 40) (v := -1) E dX5_init_40 (by decide) ?_
  refine g_iast (pc := 41) E (by rfl) (by rfl) dX5_init_41 (q_ix_l (j := 3) (by decide)) ?_
  refine g_putRF (pc := 42) E I (by first | rfl | assumption | exact hthis) (by first | rfl | assumption) ff_X5_20 rfl dX5_init_42 ?_
  have hc := hc.put (a := 3) (k := 2) (c := 20) (by rfl)
  exact g_vretN (pc := 45) E Z K (by decide) (by decide) dX5_init_45 ⟨rfl, rfl, rfl, hc⟩
set_option maxHeartbeats 4000000 in
set_option maxRecDepth 100000 in
theorem c_X6_init {al : Nat → Bool} {f : Nat → Nat → Int32} {g : Nat → Nat → Int64} {r : Nat → Nat → Option Nat} (hthis : al 6 = true) (h28 : al 28 = false) (h29 : al 29 = false) (h30 : al 30 = false) (h31 : al 31 = false) (h32 : al 32 = false) (hc : q_cl al r) : q_ConN yX6_init cX6_init 1 none 1 20 5 1499 tyX al [.ref 6] (f, g, r) (fun v al2 h' => v = none ∧ al2 = (va_up (va_up (va_up (va_up (va_up al 28 true) 29 true) 30 true) 31 true) 32 true) ∧ h' = ((va_up (va_up (va_up (va_up (va_up f 28 (fun _ => 0)) 29 (fun _ => 0)) 30 (fun _ => 0)) 31 (fun _ => 0)) 32 (fun _ => 0)), (va_up (va_up (va_up (va_up (va_up g 28 (fun _ => 0)) 29 (fun _ => 0)) 30 (fun _ => 0)) 31 (fun _ => 0)) 32 (fun _ => 0)), (q_up (va_up (q_up (va_up (q_up (va_up (q_up (va_up (q_up (va_up r 28 (fun _ => none)) 6 0 (some 28)) 29 (fun _ => none)) 6 1 (some 29)) 30 (fun _ => none)) 6 2 (some 30)) 31 (fun _ => none)) 6 3 (some 31)) 32 (fun _ => none)) 6 4 (some 32))) ∧ q_cl al2 h'.2.2) := by
  refine q_ConN.of RX6 [some (.ref 6)] (by decide +kernel) rfl rfl (Nat.le_of_ble_eq_true rfl) (fun C ad E V I0 Z => ?_)
  have I := I0 rfl
  have K := q_Kp.rf (al := al) (ad := ad)
  refine g_aload_0 (pc := 0) E dX6_init_0 ?_
  refine g_oi (pc := 1) E wl_X6_5 (by decide) (by decide) (Nat.le_of_ble_eq_true rfl) dX6_init_1 ?_
  refine g_aload_0 (pc := 4) E dX6_init_4 ?_
  refine g_sipush (pc := 5) (v := 1024) E dX6_init_5 (by decide) ?_
  refine g_newI (pc := 8) (a := 28) E V (by decide) (by decide) (by decide) (by exact h28) hc rfl (by simp [q_okb, q_okv, va_up, q_alM, hthis]) (by decide) (by decide) dX6_init_8 (fun q E => ?_)
  have K := K.new (a := 28) (q := q) (by exact h28)
  have hc := hc.new (a := 28)
  refine g_putRF (pc := 10) E I (by first | rfl | assumption | exact hthis) (by first | rfl | assumption) ff_X6_11 rfl dX6_init_10 ?_
  have hc := hc.put (a := 6) (k := 0) (c := 28) (by rfl)
  refine g_aload_0 (pc := 13) E dX6_init_13 ?_
  refine g_sipush (pc := 14) (v := 387) E dX6_init_14 (by decide) ?_
  refine g_newI (pc := 17) (a := 29) E V (by decide) (by decide) (by decide) (by exact h29) hc rfl (by simp [q_okb, q_okv, va_up, q_alM, hthis]) (by decide) (by decide) dX6_init_17 (fun q E => ?_)
  have K := K.new (a := 29) (q := q) (by exact h29)
  have hc := hc.new (a := 29)
  refine g_putRF (pc := 19) E I (by first | rfl | assumption | exact hthis) (by first | rfl | assumption) ff_X6_15 rfl dX6_init_19 ?_
  have hc := hc.put (a := 6) (k := 1) (c := 29) (by rfl)
  refine g_aload_0 (pc := 22) E dX6_init_22 ?_
  refine g_bipush (pc := 23) (v := 8) E dX6_init_23 (by decide) ?_
  refine g_newJ (pc := 25) (a := 30) E V (by decide) (by decide) (by decide) (by exact h30) hc rfl (by simp [q_okb, q_okv, va_up, q_alM, hthis]) (by decide) (by decide) dX6_init_25 (fun q E => ?_)
  have K := K.new (a := 30) (q := q) (by exact h30)
  have hc := hc.new (a := 30)
  refine g_putRF (pc := 27) E I (by first | rfl | assumption | exact hthis) (by first | rfl | assumption) ff_X6_18 rfl dX6_init_27 ?_
  have hc := hc.put (a := 6) (k := 2) (c := 30) (by rfl)
  refine g_aload_0 (pc := 30) E dX6_init_30 ?_
  refine g_bipush (pc := 31) (v := 8) E dX6_init_31 (by decide) ?_
  refine g_newJ (pc := 33) (a := 31) E V (by decide) (by decide) (by decide) (by exact h31) hc rfl (by simp [q_okb, q_okv, va_up, q_alM, hthis]) (by decide) (by decide) dX6_init_33 (fun q E => ?_)
  have K := K.new (a := 31) (q := q) (by exact h31)
  have hc := hc.new (a := 31)
  refine g_putRF (pc := 35) E I (by first | rfl | assumption | exact hthis) (by first | rfl | assumption) ff_X6_22 rfl dX6_init_35 ?_
  have hc := hc.put (a := 6) (k := 3) (c := 31) (by rfl)
  refine g_aload_0 (pc := 38) E dX6_init_38 ?_
  refine g_bipush (pc := 39) (v := 72) E dX6_init_39 (by decide) ?_
  refine g_newB (pc := 41) (a := 32) E V (by decide) (by decide) (by decide) (by exact h32) hc rfl (by simp [q_okb, q_okv, va_up, q_alM, hthis]) (by decide) (by decide) dX6_init_41 (fun q E => ?_)
  have K := K.new (a := 32) (q := q) (by exact h32)
  have hc := hc.new (a := 32)
  refine g_putRF (pc := 43) E I (by first | rfl | assumption | exact hthis) (by first | rfl | assumption) ff_X6_25 rfl dX6_init_43 ?_
  have hc := hc.put (a := 6) (k := 4) (c := 32) (by rfl)
  exact g_vretN (pc := 46) E Z K (by decide) (by decide) dX6_init_46 ⟨rfl, rfl, rfl, hc⟩
set_option maxHeartbeats 4000000 in
set_option maxRecDepth 100000 in
theorem c_X0_init {al : Nat → Bool} {f : Nat → Nat → Int32} {g : Nat → Nat → Int64} {r : Nat → Nat → Option Nat} (p q k gw : Int32) (a b : Nat) (hta : tyX a = .inr 0) (htb : tyX b = .inl (.int, 21)) (hthis : al a = true) (hb : al b = false) (hab : a ≠ b) (hc : q_cl al r) : q_ConN yX0_init cX0_init 5 none 1 20 1 21 tyX al [.ref a, .int p, .int q, .int k, .int gw] (f, g, r) (fun v al2 h' => v = none ∧ al2 = (va_up al b true) ∧ h' = ((q_up (q_up (q_up (q_up (va_up f b (fun _ => 0)) a 0 p) a 1 q) a 2 k) a 3 gw), (va_up g b (fun _ => 0)), (q_up (va_up r b (fun _ => none)) a 9 (some b))) ∧ q_cl al2 h'.2.2) := by
  refine q_ConN.of RX0 [some (.ref a), some (.int p), some (.int q), some (.int k), some (.int gw)] (by decide +kernel) rfl rfl (Nat.le_of_ble_eq_true rfl) (fun C ad E V I0 Z => ?_)
  have I := I0 rfl
  have K := q_Kp.rf (al := al) (ad := ad)
  refine g_aload_0 (pc := 0) E dX0_init_0 ?_
  refine g_oi (pc := 1) E wl_X0_3 (by decide) (by decide) (Nat.le_of_ble_eq_true rfl) dX0_init_1 ?_
  refine g_aload_0 (pc := 4) E dX0_init_4 ?_
  refine g_bipush (pc := 5) (v := 21) E dX0_init_5 (by decide) ?_
  refine g_newI (pc := 7) (a := b) E V (by decide) (by decide) (by decide) hb hc htb (by simp [q_okb, q_okv, va_up, hthis]) (by decide) (by decide) dX0_init_7 (fun q E => ?_)
  have K := K.new (a := b) (q := q) hb
  have hc := hc.new (a := b)
  refine g_putRF (pc := 9) E I (by first | exact hthis | (show va_up al b true a = true; rw [va_up_n hab]; exact hthis)) (by first | rfl | assumption) ff_X0_9 rfl dX0_init_9 ?_
  have hc := hc.put (a := a) (k := 9) (c := b) va_up_s
  refine g_aload_0 (pc := 12) E dX0_init_12 ?_
  refine g_iload_1 (pc := 13) E dX0_init_13 ?_
  refine g_putIF (pc := 14) E I (by first | exact hthis | (show va_up al b true a = true; rw [va_up_n hab]; exact hthis)) (by first | rfl | assumption) ff_X0_15 rfl dX0_init_14 ?_
  refine g_aload_0 (pc := 17) E dX0_init_17 ?_
  refine g_iload_2 (pc := 18) E dX0_init_18 ?_
  refine g_putIF (pc := 19) E I (by first | exact hthis | (show va_up al b true a = true; rw [va_up_n hab]; exact hthis)) (by first | rfl | assumption) ff_X0_19 rfl dX0_init_19 ?_
  refine g_aload_0 (pc := 22) E dX0_init_22 ?_
  refine g_iload_3 (pc := 23) E dX0_init_23 ?_
  refine g_putIF (pc := 24) E I (by first | exact hthis | (show va_up al b true a = true; rw [va_up_n hab]; exact hthis)) (by first | rfl | assumption) ff_X0_22 rfl dX0_init_24 ?_
  refine g_aload_0 (pc := 27) E dX0_init_27 ?_
  refine g_iload_4 (pc := 28) E dX0_init_28 ?_
  refine g_putI (pc := 30) E (by first | exact hthis | (show va_up al b true a = true; rw [va_up_n hab]; exact hthis)) (by first | rfl | assumption) fw_X0_25 rfl dX0_init_30 ?_
  exact g_vretN (pc := 33) E Z K (by decide) (by decide) dX0_init_33 ⟨rfl, rfl, rfl, hc⟩
