/-! the reference: rows of numbers, questions -/
set_option maxHeartbeats 4000000 in
set_option maxRecDepth 100000 in
theorem c_X8_row {f : Nat → Nat → Int32} {g : Nat → Nat → Int64} (ht : f 0 0 = 0) (s u m : Int32) : q_ConI yX8_row cX8_row 5 (some .int) 2 45 tyM alM [.ref 0, .int s, .int u, .int m] (f, g, rfM) (fun v h' => (¬ ((0 ≤ s.toInt ∧ s.toInt ≤ 3) ∧ (0 ≤ u.toInt ∧ u.toInt ≤ 3) ∧ m.toInt ≤ 60) ∧ v = -2 ∧ h' = (f, g, rfM)) ∨ (((0 ≤ s.toInt ∧ s.toInt ≤ 3) ∧ (0 ≤ u.toInt ∧ u.toInt ≤ 3) ∧ m.toInt ≤ 60) ∧ m.toInt < 0 ∧ v = -3 ∧ h' = (f, g, rfM)) ∨ (∃ S : Nat, S ≤ 3 ∧ s = nI S ∧ (0 ≤ u.toInt ∧ u.toInt ≤ 3) ∧ (0 ≤ m.toInt ∧ m.toInt ≤ 60) ∧ v = 0 ∧ h' = (q_up (q_up f 1 S u) 2 S m, q_fill g 3 (60 * S) 60 (fun _ => 0), rfM))) := by
  refine q_Con.of RX8 [some (.ref 0), some (.int s), some (.int u), some (.int m), none] (by decide +kernel) rfl rfl (Nat.le_of_ble_eq_true rfl) (fun C ad E Z => ?_)
  have L : ∀ S, S ≤ 3 → s = nI S → (0 ≤ u.toInt ∧ u.toInt ≤ 3) → (0 ≤ m.toInt ∧ m.toInt ≤ 60) → ∀ i, i ≤ 60 → gg C tyM 5 0 0 alM ad 57 [some (.ref 0), some (.int s), some (.int u), some (.int m), some (.int (nI i))] [] (q_up (q_up f 1 S u) 2 S m, q_fill g 3 (60 * S) i (fun _ => 0), rfM) := by
    intro S hS es hu hm
    subst es
    refine q_loop 60 (fun i hi ih => ?_)
    refine g_iload_4 E dX8_row_57 ?_
    refine g_bipush (v := 60) E dX8_row_59 (by decide) ?_
    refine g_icmp_ge (tgt := 83) E dX8_row_61 (by decide) (fun c_61 => ?_) (fun c_61 => ?_)
    · have e_61 := (q_ge (x := 60) (y := i) rfl rfl (by omega) (by omega)).mp c_61
      refine g_iconst (v := 0) E dX8_row_83 (by decide) ?_
      exact g_iret E Z dX8_row_84 ⟨_, rfl, Or.inr (Or.inr ⟨S, hS, rfl, hu, hm, rfl, by rw [show i = 60 by omega]⟩)⟩
    · have e_61 := (not_congr (q_ge (x := 60) (y := i) rfl rfl (by omega) (by omega))).mp c_61
      refine g_aload_0 E dX8_row_64 ?_
      refine g_getR E (by first | rfl | assumption) (by first | rfl | assumption) fl_X8_16 rfl (by first | rfl | assumption) dX8_row_65 ?_
      refine g_bipush (v := 60) E dX8_row_68 (by decide) ?_
      refine g_iload_1 E dX8_row_70 ?_
      refine g_imul E dX8_row_71 ?_
      refine g_iload_4 E dX8_row_72 ?_
      refine g_iadd E dX8_row_74 ?_
      refine g_lconst (v := 0) E dX8_row_75 (by decide) ?_
      refine g_last E (by first | rfl | assumption) (by first | rfl | assumption) dX8_row_76 (q_ix_e (q_60 _ _) (by omega)) ?_
      refine g_iinc_4 (u := 1) E dX8_row_77 (by decide) (by decide) rfl ?_
      refine g_goto (tgt := 57) E dX8_row_80 (by decide) ?_
      rw [nI_1, q_fill_s rfl]
      exact ih (by omega)
  refine g_aload_0 E dX8_row_0 ?_
  refine g_iconst (v := 0) E dX8_row_1 (by decide) ?_
  refine g_putI E (by first | rfl | assumption) (by first | rfl | assumption) fw_X8_137 rfl dX8_row_2 ?_
  rw [q_up_same ht]
  refine g_iload_1 E dX8_row_5 ?_
  refine g_cSi1 E (c_X8_isPlace _) cw_X8_146 (by decide) (by decide) (Nat.le_of_ble_eq_true rfl) dX8_row_6 (fun v_6 h_6 hp => ?_)
  obtain ⟨rfl, rfl⟩ := hp
  refine g_if_eq (tgt := 30) E dX8_row_9 (by decide) (fun c_9 => ?_) (fun c_9 => ?_)
  · have k_9 := q_b0.mp c_9
    refine g_bipush (v := -2) E dX8_row_30 (by decide) ?_
    exact g_iret E Z dX8_row_32 ⟨_, rfl, Or.inl ⟨by omega, rfl, rfl⟩⟩
  · have k_9 := q_b1.mp c_9
    refine g_iload_2 E dX8_row_12 ?_
    refine g_i2l E dX8_row_13 ?_
    refine g_lconst (v := 0) E dX8_row_14 (by decide) ?_
    refine g_ldc2 E kw_X8_140 dX8_row_15 ?_
    refine g_cSi3 E (c_X8_inI _ _ _ (0) (3) (by decide) (by decide)) cw_X8_142 (by decide) (by decide) (Nat.le_of_ble_eq_true rfl) dX8_row_18 (fun v_18 h_18 hp => ?_)
    obtain ⟨rfl, rfl⟩ := hp
    refine g_if_eq (tgt := 30) E dX8_row_21 (by decide) (fun c_21 => ?_) (fun c_21 => ?_)
    · have k_21 := q_b0.mp c_21
      refine g_bipush (v := -2) E dX8_row_30 (by decide) ?_
      exact g_iret E Z dX8_row_32 ⟨_, rfl, Or.inl ⟨by omega, rfl, rfl⟩⟩
    · have k_21 := q_b1.mp c_21
      refine g_iload_3 E dX8_row_24 ?_
      refine g_bipush (v := 60) E dX8_row_25 (by decide) ?_
      refine g_icmp_le (tgt := 33) E dX8_row_27 (by decide) (fun c_27 => ?_) (fun c_27 => ?_)
      · have k_27 := c_27
        simp only [q_ilt, q_ile, q_ieq, Int32.reduceToInt, Int32.toInt_zero] at k_27
        refine g_iload_3 E dX8_row_33 ?_
        refine g_if_ge (tgt := 40) E dX8_row_34 (by decide) (fun c_34 => ?_) (fun c_34 => ?_)
        · have k_34 := c_34
          simp only [q_ilt, q_ile, q_ieq, Int32.reduceToInt, Int32.toInt_zero] at k_34
          obtain ⟨S, hS, rfl⟩ := q_nat (b := 3) k_9.1 k_9.2
          refine g_aload_0 E dX8_row_40 ?_
          refine g_getR E (by first | rfl | assumption) (by first | rfl | assumption) fl_X8_9 rfl (by first | rfl | assumption) dX8_row_41 ?_
          refine g_iload_1 E dX8_row_44 ?_
          refine g_iload_2 E dX8_row_45 ?_
          refine g_iast E (by first | rfl | assumption) (by first | rfl | assumption) dX8_row_46 (q_ix_n (by omega)) ?_
          refine g_aload_0 E dX8_row_47 ?_
          refine g_getR E (by first | rfl | assumption) (by first | rfl | assumption) fl_X8_13 rfl (by first | rfl | assumption) dX8_row_48 ?_
          refine g_iload_1 E dX8_row_51 ?_
          refine g_iload_3 E dX8_row_52 ?_
          refine g_iast E (by first | rfl | assumption) (by first | rfl | assumption) dX8_row_53 (q_ix_n (by omega)) ?_
          refine g_iconst (v := 0) E dX8_row_54 (by decide) ?_
          refine g_istore_4 E dX8_row_55 (by decide) rfl ?_
          have e := L S hS rfl k_21 (by omega) 0 (Nat.zero_le _)
          rw [q_fill_0] at e
          exact e
        · have k_34 := c_34
          simp only [q_ilt, q_ile, q_ieq, Int32.reduceToInt, Int32.toInt_zero] at k_34
          refine g_bipush (v := -3) E dX8_row_37 (by decide) ?_
          exact g_iret E Z dX8_row_39 ⟨_, rfl, Or.inr (Or.inl ⟨by omega, by omega, rfl, rfl⟩)⟩
      · have k_27 := c_27
        simp only [q_ilt, q_ile, q_ieq, Int32.reduceToInt, Int32.toInt_zero] at k_27
        refine g_bipush (v := -2) E dX8_row_30 (by decide) ?_
        exact g_iret E Z dX8_row_32 ⟨_, rfl, Or.inl ⟨by omega, rfl, rfl⟩⟩
set_option maxHeartbeats 4000000 in
set_option maxRecDepth 100000 in
theorem c_X8_tear {f : Nat → Nat → Int32} {g : Nat → Nat → Int64} (ht : f 0 0 = 0) (s : Int32) : q_ConI yX8_tear cX8_tear 2 (some .boolean) 2 45 tyM alM [.ref 0, .int s] (f, g, rfM) (fun v h' => (∃ S : Nat, S ≤ 3 ∧ s = nI S ∧ ¬ f 1 S < 0 ∧ v = 1 ∧ h' = (q_up f 1 S (-1), g, rfM)) ∨ (¬ ((0 ≤ s.toInt ∧ s.toInt ≤ 3) ∧ ¬ f 1 s.toNatClampNeg < 0) ∧ v = 0 ∧ h' = (f, g, rfM))) := by
  refine q_Con.of RX8 [some (.ref 0), some (.int s)] (by decide +kernel) rfl rfl (Nat.le_of_ble_eq_true rfl) (fun C ad E Z => ?_)
  refine g_aload_0 E dX8_tear_0 ?_
  refine g_iconst (v := 0) E dX8_tear_1 (by decide) ?_
  refine g_putI E (by first | rfl | assumption) (by first | rfl | assumption) fw_X8_137 rfl dX8_tear_2 ?_
  rw [q_up_same ht]
  refine g_iload_1 E dX8_tear_5 ?_
  refine g_cSi1 E (c_X8_isPlace _) cw_X8_146 (by decide) (by decide) (Nat.le_of_ble_eq_true rfl) dX8_tear_6 (fun v_6 h_6 hp => ?_)
  obtain ⟨rfl, rfl⟩ := hp
  refine g_if_eq (tgt := 21) E dX8_tear_9 (by decide) (fun c_9 => ?_) (fun c_9 => ?_)
  · have k_9 := q_b0.mp c_9
    refine g_iconst (v := 0) E dX8_tear_21 (by decide) ?_
    exact g_zret E Z dX8_tear_22 rfl ⟨_, rfl, Or.inr ⟨by first | omega | (rintro ⟨_, q⟩; rw [kS] at q; exact q (Int32.not_le.mp c_18)), rfl, rfl⟩⟩
  · have k_9 := q_b1.mp c_9
    obtain ⟨S, hS, rfl⟩ := q_nat (b := 3) k_9.1 k_9.2
    have kS : (nI S).toNatClampNeg = S := nI_clamp (by omega)
    refine g_aload_0 E dX8_tear_12 ?_
    refine g_getR E (by first | rfl | assumption) (by first | rfl | assumption) fl_X8_9 rfl (by first | rfl | assumption) dX8_tear_13 ?_
    refine g_iload_1 E dX8_tear_16 ?_
    refine g_iald E (by first | rfl | assumption) (by first | rfl | assumption) dX8_tear_17 (q_ix_n (by omega)) ?_
    refine g_if_ge (tgt := 23) E dX8_tear_18 (by decide) (fun c_18 => ?_) (fun c_18 => ?_)
    · refine g_aload_0 E dX8_tear_23 ?_
      refine g_getR E (by first | rfl | assumption) (by first | rfl | assumption) fl_X8_9 rfl (by first | rfl | assumption) dX8_tear_24 ?_
      refine g_iload_1 E dX8_tear_27 ?_
      refine g_iconst (v := -1) E dX8_tear_28 (by decide) ?_
      refine g_iast E (by first | rfl | assumption) (by first | rfl | assumption) dX8_tear_29 (q_ix_n (by omega)) ?_
      refine g_iconst (v := 1) E dX8_tear_30 (by decide) ?_
      exact g_zret E Z dX8_tear_31 rfl ⟨_, rfl, Or.inl ⟨S, hS, rfl, Int32.not_lt.mpr c_18, rfl, rfl⟩⟩
    · refine g_iconst (v := 0) E dX8_tear_21 (by decide) ?_
      exact g_zret E Z dX8_tear_22 rfl ⟨_, rfl, Or.inr ⟨by first | omega | (rintro ⟨_, q⟩; rw [kS] at q; exact q (Int32.not_le.mp c_18)), rfl, rfl⟩⟩
set_option maxHeartbeats 4000000 in
set_option maxRecDepth 100000 in
theorem c_X8_write {f : Nat → Nat → Int32} {g : Nat → Nat → Int64} (ht : f 0 0 = 0) (hsz : ∀ S, S ≤ 3 → ∃ z : Nat, z ≤ 60 ∧ f 2 S = nI z) (s i : Int32) (x : Int64) : q_ConI yX8_write cX8_write 5 (some .int) 2 45 tyM alM [.ref 0, .int s, .int i, .long x] (f, g, rfM) (fun v h' => (¬ (0 ≤ s.toInt ∧ s.toInt ≤ 3) ∧ v = -2 ∧ h' = (f, g, rfM)) ∨ (∃ S : Nat, S ≤ 3 ∧ s = nI S ∧ ((f 1 S < 0 ∧ v = -5 ∧ h' = (f, g, rfM)) ∨ (¬ f 1 S < 0 ∧ ¬ (0 ≤ i.toInt ∧ i.toInt < (f 2 S).toInt) ∧ v = -6 ∧ h' = (f, g, rfM)) ∨ (¬ f 1 S < 0 ∧ ∃ j : Nat, i = nI j ∧ (j : Int) < (f 2 S).toInt ∧ j < 60 ∧ v = 0 ∧ h' = (f, q_up g 3 (60 * S + j) (q_cut (f 1 S) x), rfM))))) := by
  refine q_Con.of RX8 [some (.ref 0), some (.int s), some (.int i), some (.long x), none] (by decide +kernel) rfl rfl (Nat.le_of_ble_eq_true rfl) (fun C ad E Z => ?_)
  refine g_aload_0 E dX8_write_0 ?_
  refine g_iconst (v := 0) E dX8_write_1 (by decide) ?_
  refine g_putI E (by first | rfl | assumption) (by first | rfl | assumption) fw_X8_137 rfl dX8_write_2 ?_
  rw [q_up_same ht]
  refine g_iload_1 E dX8_write_5 ?_
  refine g_cSi1 E (c_X8_isPlace _) cw_X8_146 (by decide) (by decide) (Nat.le_of_ble_eq_true rfl) dX8_write_6 (fun v_6 h_6 hp => ?_)
  obtain ⟨rfl, rfl⟩ := hp
  refine g_if_ne (tgt := 15) E dX8_write_9 (by decide) (fun c_9 => ?_) (fun c_9 => ?_)
  · have k_9 := q_b1.mp c_9
    obtain ⟨S, hS, rfl⟩ := q_nat (b := 3) k_9.1 k_9.2
    obtain ⟨z, hz, ez⟩ := hsz S hS
    have hpi : (f 2 S - 1).toInt = (z : Int) - 1 := by rw [ez]; exact q_pred (by omega)
    have hzi : (f 2 S).toInt = z := by rw [ez]; exact nI_toInt (by omega)
    refine g_aload_0 E dX8_write_15 ?_
    refine g_getR E (by first | rfl | assumption) (by first | rfl | assumption) fl_X8_9 rfl (by first | rfl | assumption) dX8_write_16 ?_
    refine g_iload_1 E dX8_write_19 ?_
    refine g_iald E (by first | rfl | assumption) (by first | rfl | assumption) dX8_write_20 (q_ix_n (by omega)) ?_
    refine g_if_ge (tgt := 27) E dX8_write_21 (by decide) (fun c_21 => ?_) (fun c_21 => ?_)
    · refine g_iload_2 E dX8_write_27 ?_
      refine g_i2l E dX8_write_28 ?_
      refine g_lconst (v := 0) E dX8_write_29 (by decide) ?_
      refine g_aload_0 E dX8_write_30 ?_
      refine g_getR E (by first | rfl | assumption) (by first | rfl | assumption) fl_X8_13 rfl (by first | rfl | assumption) dX8_write_31 ?_
      refine g_iload_1 E dX8_write_34 ?_
      refine g_iald E (by first | rfl | assumption) (by first | rfl | assumption) dX8_write_35 (q_ix_n (by omega)) ?_
      refine g_iconst (v := 1) E dX8_write_36 (by decide) ?_
      refine g_isub E dX8_write_37 ?_
      refine g_i2l E dX8_write_38 ?_
      refine g_cSi3 E (c_X8_inI _ _ _ 0 ((z : Int) - 1) (by decide) (by rw [q_32, hpi])) cw_X8_142 (by decide) (by decide) (Nat.le_of_ble_eq_true rfl) dX8_write_39 (fun v_39 h_39 hp => ?_)
      obtain ⟨rfl, rfl⟩ := hp
      refine g_if_ne (tgt := 48) E dX8_write_42 (by decide) (fun c_42 => ?_) (fun c_42 => ?_)
      · have k_42 := q_b1.mp c_42
        obtain ⟨j, hj, rfl⟩ := q_nat (b := z - 1) k_42.1 (by omega)
        have hjz : j < z := by have := k_42.2; rw [nI_toInt (by omega)] at this; omega
        refine g_aload_0 E dX8_write_48 ?_
        refine g_getR E (by first | rfl | assumption) (by first | rfl | assumption) fl_X8_16 rfl (by first | rfl | assumption) dX8_write_49 ?_
        refine g_bipush (v := 60) E dX8_write_52 (by decide) ?_
        refine g_iload_1 E dX8_write_54 ?_
        refine g_imul E dX8_write_55 ?_
        refine g_iload_2 E dX8_write_56 ?_
        refine g_iadd E dX8_write_57 ?_
        refine g_aload_0 E dX8_write_58 ?_
        refine g_getR E (by first | rfl | assumption) (by first | rfl | assumption) fl_X8_9 rfl (by first | rfl | assumption) dX8_write_59 ?_
        refine g_iload_1 E dX8_write_62 ?_
        refine g_iald E (by first | rfl | assumption) (by first | rfl | assumption) dX8_write_63 (q_ix_n (by omega)) ?_
        refine g_lload_3 E dX8_write_64 ?_
        refine g_cSl2 E (c_X8_cut _ _) cw_X8_150 (by decide) (by decide) (Nat.le_of_ble_eq_true rfl) dX8_write_65 (fun v_65 h_65 hp => ?_)
        obtain ⟨rfl, rfl⟩ := hp
        refine g_last E (by first | rfl | assumption) (by first | rfl | assumption) dX8_write_68 (q_ix_e (q_60 _ _) (by omega)) ?_
        refine g_iconst (v := 0) E dX8_write_69 (by decide) ?_
        exact g_iret E Z dX8_write_70 ⟨_, rfl, Or.inr ⟨S, hS, rfl, Or.inr (Or.inr ⟨Int32.not_lt.mpr c_21, j, rfl, by omega, by omega, rfl, rfl⟩)⟩⟩
      · have k_42 := q_b0.mp c_42
        refine g_bipush (v := -6) E dX8_write_45 (by decide) ?_
        exact g_iret E Z dX8_write_47 ⟨_, rfl, Or.inr ⟨S, hS, rfl, Or.inr (Or.inl ⟨Int32.not_lt.mpr c_21, by omega, rfl, rfl⟩)⟩⟩
    · refine g_bipush (v := -5) E dX8_write_24 (by decide) ?_
      exact g_iret E Z dX8_write_26 ⟨_, rfl, Or.inr ⟨S, hS, rfl, Or.inl ⟨Int32.not_le.mp c_21, rfl, rfl⟩⟩⟩
  · have k_9 := q_b0.mp c_9
    refine g_bipush (v := -2) E dX8_write_12 (by decide) ?_
    exact g_iret E Z dX8_write_14 ⟨_, rfl, Or.inl ⟨k_9, rfl, rfl⟩⟩
set_option maxHeartbeats 4000000 in
set_option maxRecDepth 100000 in
theorem c_X8_paste {f : Nat → Nat → Int32} {g : Nat → Nat → Int64} (ht : f 0 0 = 0) (hsz : ∀ S, S ≤ 3 → ∃ z : Nat, z ≤ 60 ∧ f 2 S = nI z) (s i t k m : Int32) : q_ConI yX8_paste cX8_paste 7 (some .int) 2 45 tyM alM [.ref 0, .int s, .int i, .int t, .int k, .int m] (f, g, rfM) (fun v h' => (¬ ((0 ≤ s.toInt ∧ s.toInt ≤ 3) ∧ (0 ≤ t.toInt ∧ t.toInt ≤ 3)) ∧ v = -2 ∧ h' = (f, g, rfM)) ∨ (∃ S T : Nat, S ≤ 3 ∧ s = nI S ∧ T ≤ 3 ∧ t = nI T ∧ (((f 1 S < 0 ∨ f 1 T < 0) ∧ v = -5 ∧ h' = (f, g, rfM)) ∨ (¬ (f 1 S < 0 ∨ f 1 T < 0) ∧ ¬ f 1 S = f 1 T ∧ v = -7 ∧ h' = (f, g, rfM)) ∨ (¬ (f 1 S < 0 ∨ f 1 T < 0) ∧ f 1 S = f 1 T ∧ ¬ (0 ≤ i.toInt ∧ 0 ≤ k.toInt ∧ 0 ≤ m.toInt ∧ i.toInt + m.toInt ≤ (f 2 S).toInt ∧ k.toInt + m.toInt ≤ (f 2 T).toInt) ∧ v = -6 ∧ h' = (f, g, rfM)) ∨ (¬ (f 1 S < 0 ∨ f 1 T < 0) ∧ f 1 S = f 1 T ∧ ∃ I K N : Nat, i = nI I ∧ k = nI K ∧ m = nI N ∧ ((I + N : Nat) : Int) ≤ (f 2 S).toInt ∧ ((K + N : Nat) : Int) ≤ (f 2 T).toInt ∧ I + N ≤ 60 ∧ K + N ≤ 60 ∧ v = 0 ∧ h' = (f, q_fill (q_fill g 4 0 N (fun j => g 3 (60 * S + I + j))) 3 (60 * T + K) N (fun j => g 3 (60 * S + I + j)), rfM))))) := by
  refine q_Con.of RX8 [some (.ref 0), some (.int s), some (.int i), some (.int t), some (.int k), some (.int m), none] (by decide +kernel) rfl rfl (Nat.le_of_ble_eq_true rfl) (fun C ad E Z => ?_)
  have q3 : ∀ a b c : Nat, (60 : Int32) * nI a + nI b + nI c = nI (60 * a + b + c) := fun a b c => by rw [q_60, nI_add]
  have L : ∀ S T I K N : Nat, S ≤ 3 → T ≤ 3 → s = nI S → t = nI T → i = nI I → k = nI K → m = nI N → ¬ (f 1 S < 0 ∨ f 1 T < 0) → f 1 S = f 1 T → ((I + N : Nat) : Int) ≤ (f 2 S).toInt → ((K + N : Nat) : Int) ≤ (f 2 T).toInt → I + N ≤ 60 → K + N ≤ 60 → gg C tyM 7 0 0 alM ad 116 [some (.ref 0), some (.int s), some (.int i), some (.int t), some (.int k), some (.int m), some (.int 0)] [] (f, g, rfM) := by
    intro S T I K N hS hT es et ei ek em u1 u2 u3 u4 u5 u6
    subst es; subst et; subst ei; subst ek; subst em
    have L2 : ∀ q, q ≤ N → gg C tyM 7 0 0 alM ad 153 [some (.ref 0), some (.int (nI S)), some (.int (nI I)), some (.int (nI T)), some (.int (nI K)), some (.int (nI N)), some (.int (nI q))] [] (f, q_fill (q_fill g 4 0 N (fun j => g 3 (60 * S + I + j))) 3 (60 * T + K) q (fun j => g 3 (60 * S + I + j)), rfM) := by
      refine q_loop N (fun q hi ih => ?_)
      refine g_iload_6 E dX8_paste_153 ?_
      refine g_iload_5 E dX8_paste_155 ?_
      refine g_icmp_ge (tgt := 188) E dX8_paste_157 (by decide) (fun c_157 => ?_) (fun c_157 => ?_)
      · have e_157 := (q_ge (x := N) (y := q) rfl rfl (by omega) (by omega)).mp c_157
        refine g_iconst (v := 0) E dX8_paste_188 (by decide) ?_
        exact g_iret E Z dX8_paste_189 ⟨_, rfl, Or.inr ⟨S, T, hS, rfl, hT, rfl, Or.inr (Or.inr (Or.inr ⟨u1, u2, I, K, N, rfl, rfl, rfl, u3, u4, u5, u6, rfl, by rw [show q = N by omega]⟩))⟩⟩
      · have e_157 := (not_congr (q_ge (x := N) (y := q) rfl rfl (by omega) (by omega))).mp c_157
        refine g_aload_0 E dX8_paste_160 ?_
        refine g_getR E (by first | rfl | assumption) (by first | rfl | assumption) fl_X8_16 rfl (by first | rfl | assumption) dX8_paste_161 ?_
        refine g_bipush (v := 60) E dX8_paste_164 (by decide) ?_
        refine g_iload_3 E dX8_paste_166 ?_
        refine g_imul E dX8_paste_167 ?_
        refine g_iload_4 E dX8_paste_168 ?_
        refine g_iadd E dX8_paste_170 ?_
        refine g_iload_6 E dX8_paste_171 ?_
        refine g_iadd E dX8_paste_173 ?_
        refine g_aload_0 E dX8_paste_174 ?_
        refine g_getR E (by first | rfl | assumption) (by first | rfl | assumption) fl_X8_20 rfl (by first | rfl | assumption) dX8_paste_175 ?_
        refine g_iload_6 E dX8_paste_178 ?_
        refine g_lald E (by first | rfl | assumption) (by first | rfl | assumption) dX8_paste_180 (q_ix_n (by omega)) ?_
        refine g_last E (by first | rfl | assumption) (by first | rfl | assumption) dX8_paste_181 (q_ix_e (q3 _ _ _) (by omega)) ?_
        refine g_iinc_6 (u := 1) E dX8_paste_182 (by decide) (by decide) rfl ?_
        refine g_goto (tgt := 153) E dX8_paste_185 (by decide) ?_
        rw [nI_1, q_fill_s (by rw [q_fill_ne (by decide), q_fill_in (Nat.zero_le _) (by omega)]; rfl)]
        exact ih (by omega)
    have L1 : ∀ q, q ≤ N → gg C tyM 7 0 0 alM ad 116 [some (.ref 0), some (.int (nI S)), some (.int (nI I)), some (.int (nI T)), some (.int (nI K)), some (.int (nI N)), some (.int (nI q))] [] (f, q_fill g 4 0 q (fun j => g 3 (60 * S + I + j)), rfM) := by
      refine q_loop N (fun q hi ih => ?_)
      refine g_iload_6 E dX8_paste_116 ?_
      refine g_iload_5 E dX8_paste_118 ?_
      refine g_icmp_ge (tgt := 150) E dX8_paste_120 (by decide) (fun c_120 => ?_) (fun c_120 => ?_)
      · have e_120 := (q_ge (x := N) (y := q) rfl rfl (by omega) (by omega)).mp c_120
        refine g_iconst (v := 0) E dX8_paste_150 (by decide) ?_
        refine g_istore_6 E dX8_paste_151 (by decide) rfl ?_
        have e := L2 0 (Nat.zero_le _)
        rw [q_fill_0] at e
        rw [show q = N by omega]
        exact e
      · have e_120 := (not_congr (q_ge (x := N) (y := q) rfl rfl (by omega) (by omega))).mp c_120
        refine g_aload_0 E dX8_paste_123 ?_
        refine g_getR E (by first | rfl | assumption) (by first | rfl | assumption) fl_X8_20 rfl (by first | rfl | assumption) dX8_paste_124 ?_
        refine g_iload_6 E dX8_paste_127 ?_
        refine g_aload_0 E dX8_paste_129 ?_
        refine g_getR E (by first | rfl | assumption) (by first | rfl | assumption) fl_X8_16 rfl (by first | rfl | assumption) dX8_paste_130 ?_
        refine g_bipush (v := 60) E dX8_paste_133 (by decide) ?_
        refine g_iload_1 E dX8_paste_135 ?_
        refine g_imul E dX8_paste_136 ?_
        refine g_iload_2 E dX8_paste_137 ?_
        refine g_iadd E dX8_paste_138 ?_
        refine g_iload_6 E dX8_paste_139 ?_
        refine g_iadd E dX8_paste_141 ?_
        refine g_lald E (by first | rfl | assumption) (by first | rfl | assumption) dX8_paste_142 (q_ix_e (q3 _ _ _) (by omega)) ?_
        refine g_last E (by first | rfl | assumption) (by first | rfl | assumption) dX8_paste_143 (q_ix_n (by omega)) ?_
        refine g_iinc_6 (u := 1) E dX8_paste_144 (by decide) (by decide) rfl ?_
        refine g_goto (tgt := 116) E dX8_paste_147 (by decide) ?_
        have e := q_fill_s (f := g) (a := 4) (lo := 0) (n := q) (v := fun j => g 3 (60 * S + I + j)) rfl
        rw [Nat.zero_add] at e
        rw [nI_1]
        exact e ▸ ih (by omega)
    have e := L1 0 (Nat.zero_le _)
    rw [q_fill_0] at e
    exact e
  have q64 : ∀ a b : Int32, (a.toInt64 + b.toInt64).toInt = a.toInt + b.toInt := fun a b => by
    rw [Int64.toInt_add, q_32, q_32]
    have h1 := Int32.le_toInt a
    have h2 := Int32.toInt_lt a
    have h3 := Int32.le_toInt b
    have h4 := Int32.toInt_lt b
    exact Int.bmod_eq_of_le (by omega) (by omega)
  refine g_aload_0 E dX8_paste_0 ?_
  refine g_iconst (v := 0) E dX8_paste_1 (by decide) ?_
  refine g_putI E (by first | rfl | assumption) (by first | rfl | assumption) fw_X8_137 rfl dX8_paste_2 ?_
  rw [q_up_same ht]
  refine g_iload_1 E dX8_paste_5 ?_
  refine g_cSi1 E (c_X8_isPlace _) cw_X8_146 (by decide) (by decide) (Nat.le_of_ble_eq_true rfl) dX8_paste_6 (fun v_6 h_6 hp => ?_)
  obtain ⟨rfl, rfl⟩ := hp
  refine g_if_eq (tgt := 19) E dX8_paste_9 (by decide) (fun c_9 => ?_) (fun c_9 => ?_)
  · have k_9 := q_b0.mp c_9
    refine g_bipush (v := -2) E dX8_paste_19 (by decide) ?_
    exact g_iret E Z dX8_paste_21 ⟨_, rfl, Or.inl ⟨by omega, rfl, rfl⟩⟩
  · have k_9 := q_b1.mp c_9
    refine g_iload_3 E dX8_paste_12 ?_
    refine g_cSi1 E (c_X8_isPlace _) cw_X8_146 (by decide) (by decide) (Nat.le_of_ble_eq_true rfl) dX8_paste_13 (fun v_13 h_13 hp => ?_)
    obtain ⟨rfl, rfl⟩ := hp
    refine g_if_ne (tgt := 22) E dX8_paste_16 (by decide) (fun c_16 => ?_) (fun c_16 => ?_)
    · have k_16 := q_b1.mp c_16
      obtain ⟨S, hS, rfl⟩ := q_nat (b := 3) k_9.1 k_9.2
      obtain ⟨T, hT, rfl⟩ := q_nat (b := 3) k_16.1 k_16.2
      obtain ⟨z, hz, ez⟩ := hsz S hS
      obtain ⟨y, hy, ey⟩ := hsz T hT
      have hzi : (f 2 S).toInt = z := by rw [ez]; exact nI_toInt (by omega)
      have hyi : (f 2 T).toInt = y := by rw [ey]; exact nI_toInt (by omega)
      refine g_aload_0 E dX8_paste_22 ?_
      refine g_getR E (by first | rfl | assumption) (by first | rfl | assumption) fl_X8_9 rfl (by first | rfl | assumption) dX8_paste_23 ?_
      refine g_iload_1 E dX8_paste_26 ?_
      refine g_iald E (by first | rfl | assumption) (by first | rfl | assumption) dX8_paste_27 (q_ix_n (by omega)) ?_
      refine g_if_lt (tgt := 40) E dX8_paste_28 (by decide) (fun c_28 => ?_) (fun c_28 => ?_)
      · refine g_bipush (v := -5) E dX8_paste_40 (by decide) ?_
        exact g_iret E Z dX8_paste_42 ⟨_, rfl, Or.inr ⟨S, T, hS, rfl, hT, rfl, Or.inl ⟨by first | exact Or.inl c_28 | exact Or.inr (Int32.not_le.mp c_37), rfl, rfl⟩⟩⟩
      · refine g_aload_0 E dX8_paste_31 ?_
        refine g_getR E (by first | rfl | assumption) (by first | rfl | assumption) fl_X8_9 rfl (by first | rfl | assumption) dX8_paste_32 ?_
        refine g_iload_3 E dX8_paste_35 ?_
        refine g_iald E (by first | rfl | assumption) (by first | rfl | assumption) dX8_paste_36 (q_ix_n (by omega)) ?_
        refine g_if_ge (tgt := 43) E dX8_paste_37 (by decide) (fun c_37 => ?_) (fun c_37 => ?_)
        · refine g_aload_0 E dX8_paste_43 ?_
          refine g_getR E (by first | rfl | assumption) (by first | rfl | assumption) fl_X8_9 rfl (by first | rfl | assumption) dX8_paste_44 ?_
          refine g_iload_1 E dX8_paste_47 ?_
          refine g_iald E (by first | rfl | assumption) (by first | rfl | assumption) dX8_paste_48 (q_ix_n (by omega)) ?_
          refine g_aload_0 E dX8_paste_49 ?_
          refine g_getR E (by first | rfl | assumption) (by first | rfl | assumption) fl_X8_9 rfl (by first | rfl | assumption) dX8_paste_50 ?_
          refine g_iload_3 E dX8_paste_53 ?_
          refine g_iald E (by first | rfl | assumption) (by first | rfl | assumption) dX8_paste_54 (q_ix_n (by omega)) ?_
          refine g_icmp_eq (tgt := 61) E dX8_paste_55 (by decide) (fun c_55 => ?_) (fun c_55 => ?_)
          · refine g_iload_2 E dX8_paste_61 ?_
            refine g_if_lt (tgt := 110) E dX8_paste_62 (by decide) (fun c_62 => ?_) (fun c_62 => ?_)
            · have k_62 := c_62
              simp only [q_ilt, q_ile, q_ieq, Int32.reduceToInt, Int32.toInt_zero] at k_62
              refine g_bipush (v := -6) E dX8_paste_110 (by decide) ?_
              exact g_iret E Z dX8_paste_112 ⟨_, rfl, Or.inr ⟨S, T, hS, rfl, hT, rfl, Or.inr (Or.inr (Or.inl ⟨by (rintro (q | q); exact c_28 q; exact absurd q (Int32.not_lt.mpr c_37)), c_55, by omega, rfl, rfl⟩))⟩⟩
            · have k_62 := c_62
              simp only [q_ilt, q_ile, q_ieq, Int32.reduceToInt, Int32.toInt_zero] at k_62
              refine g_iload_4 E dX8_paste_65 ?_
              refine g_if_lt (tgt := 110) E dX8_paste_67 (by decide) (fun c_67 => ?_) (fun c_67 => ?_)
              · have k_67 := c_67
                simp only [q_ilt, q_ile, q_ieq, Int32.reduceToInt, Int32.toInt_zero] at k_67
                refine g_bipush (v := -6) E dX8_paste_110 (by decide) ?_
                exact g_iret E Z dX8_paste_112 ⟨_, rfl, Or.inr ⟨S, T, hS, rfl, hT, rfl, Or.inr (Or.inr (Or.inl ⟨by (rintro (q | q); exact c_28 q; exact absurd q (Int32.not_lt.mpr c_37)), c_55, by omega, rfl, rfl⟩))⟩⟩
              · have k_67 := c_67
                simp only [q_ilt, q_ile, q_ieq, Int32.reduceToInt, Int32.toInt_zero] at k_67
                refine g_iload_5 E dX8_paste_70 ?_
                refine g_if_lt (tgt := 110) E dX8_paste_72 (by decide) (fun c_72 => ?_) (fun c_72 => ?_)
                · have k_72 := c_72
                  simp only [q_ilt, q_ile, q_ieq, Int32.reduceToInt, Int32.toInt_zero] at k_72
                  refine g_bipush (v := -6) E dX8_paste_110 (by decide) ?_
                  exact g_iret E Z dX8_paste_112 ⟨_, rfl, Or.inr ⟨S, T, hS, rfl, hT, rfl, Or.inr (Or.inr (Or.inl ⟨by (rintro (q | q); exact c_28 q; exact absurd q (Int32.not_lt.mpr c_37)), c_55, by omega, rfl, rfl⟩))⟩⟩
                · have k_72 := c_72
                  simp only [q_ilt, q_ile, q_ieq, Int32.reduceToInt, Int32.toInt_zero] at k_72
                  refine g_iload_2 E dX8_paste_75 ?_
                  refine g_i2l E dX8_paste_76 ?_
                  refine g_iload_5 E dX8_paste_77 ?_
                  refine g_i2l E dX8_paste_79 ?_
                  refine g_ladd E dX8_paste_80 ?_
                  refine g_aload_0 E dX8_paste_81 ?_
                  refine g_getR E (by first | rfl | assumption) (by first | rfl | assumption) fl_X8_13 rfl (by first | rfl | assumption) dX8_paste_82 ?_
                  refine g_iload_1 E dX8_paste_85 ?_
                  refine g_iald E (by first | rfl | assumption) (by first | rfl | assumption) dX8_paste_86 (q_ix_n (by omega)) ?_
                  refine g_i2l E dX8_paste_87 ?_
                  refine g_lcmp E dX8_paste_88 ?_
                  refine g_if_gt (tgt := 110) E dX8_paste_89 (by decide) (fun c_89 => ?_) (fun c_89 => ?_)
                  · have k_89 := q_gt c_89
                    rw [q64, q_32] at k_89
                    refine g_bipush (v := -6) E dX8_paste_110 (by decide) ?_
                    exact g_iret E Z dX8_paste_112 ⟨_, rfl, Or.inr ⟨S, T, hS, rfl, hT, rfl, Or.inr (Or.inr (Or.inl ⟨by (rintro (q | q); exact c_28 q; exact absurd q (Int32.not_lt.mpr c_37)), c_55, by omega, rfl, rfl⟩))⟩⟩
                  · have k_89 := q_ngt c_89
                    rw [q64, q_32] at k_89
                    refine g_iload_4 E dX8_paste_92 ?_
                    refine g_i2l E dX8_paste_94 ?_
                    refine g_iload_5 E dX8_paste_95 ?_
                    refine g_i2l E dX8_paste_97 ?_
                    refine g_ladd E dX8_paste_98 ?_
                    refine g_aload_0 E dX8_paste_99 ?_
                    refine g_getR E (by first | rfl | assumption) (by first | rfl | assumption) fl_X8_13 rfl (by first | rfl | assumption) dX8_paste_100 ?_
                    refine g_iload_3 E dX8_paste_103 ?_
                    refine g_iald E (by first | rfl | assumption) (by first | rfl | assumption) dX8_paste_104 (q_ix_n (by omega)) ?_
                    refine g_i2l E dX8_paste_105 ?_
                    refine g_lcmp E dX8_paste_106 ?_
                    refine g_if_le (tgt := 113) E dX8_paste_107 (by decide) (fun c_107 => ?_) (fun c_107 => ?_)
                    · have k_107 : k.toInt + m.toInt ≤ (f 2 T).toInt := by
                        have := Int64.le_iff_toInt_le.mp ((lg_cmp_le _ _).mp c_107)
                        rw [q64, q_32] at this
                        exact this
                      refine g_iconst (v := 0) E dX8_paste_113 (by decide) ?_
                      refine g_istore_6 E dX8_paste_114 (by decide) rfl ?_
                      obtain ⟨I, hI, rfl⟩ := q_nat (b := 60) (x := i) (by omega) (by omega)
                      obtain ⟨K, hK, rfl⟩ := q_nat (b := 60) (x := k) (by omega) (by omega)
                      obtain ⟨N, hN, rfl⟩ := q_nat (b := 60) (x := m) (by omega) (by omega)
                      have e1 : (nI I).toInt = I := nI_toInt (by omega)
                      have e2 : (nI K).toInt = K := nI_toInt (by omega)
                      have e3 : (nI N).toInt = N := nI_toInt (by omega)
                      exact L S T I K N hS hT rfl rfl rfl rfl rfl (by rintro (q | q); exact c_28 q; exact absurd q (Int32.not_lt.mpr c_37)) c_55 (by omega) (by omega) (by omega) (by omega)
                    · have k_107 : ¬ k.toInt + m.toInt ≤ (f 2 T).toInt := fun q => c_107 ((lg_cmp_le _ _).mpr (Int64.le_iff_toInt_le.mpr (by rw [q64, q_32]; exact q)))
                      refine g_bipush (v := -6) E dX8_paste_110 (by decide) ?_
                      exact g_iret E Z dX8_paste_112 ⟨_, rfl, Or.inr ⟨S, T, hS, rfl, hT, rfl, Or.inr (Or.inr (Or.inl ⟨by (rintro (q | q); exact c_28 q; exact absurd q (Int32.not_lt.mpr c_37)), c_55, by omega, rfl, rfl⟩))⟩⟩
          · refine g_bipush (v := -7) E dX8_paste_58 (by decide) ?_
            exact g_iret E Z dX8_paste_60 ⟨_, rfl, Or.inr ⟨S, T, hS, rfl, hT, rfl, Or.inr (Or.inl ⟨by (rintro (q | q); exact c_28 q; exact absurd q (Int32.not_lt.mpr c_37)), c_55, rfl, rfl⟩)⟩⟩
        · refine g_bipush (v := -5) E dX8_paste_40 (by decide) ?_
          exact g_iret E Z dX8_paste_42 ⟨_, rfl, Or.inr ⟨S, T, hS, rfl, hT, rfl, Or.inl ⟨by first | exact Or.inl c_28 | exact Or.inr (Int32.not_le.mp c_37), rfl, rfl⟩⟩⟩
    · have k_16 := q_b0.mp c_16
      refine g_bipush (v := -2) E dX8_paste_19 (by decide) ?_
      exact g_iret E Z dX8_paste_21 ⟨_, rfl, Or.inl ⟨by omega, rfl, rfl⟩⟩
set_option maxHeartbeats 4000000 in
set_option maxRecDepth 100000 in
theorem c_X8_digit {f : Nat → Nat → Int32} {g : Nat → Nat → Int64} (ht : f 0 0 = 0) (n : Nat) (hn : f 0 46 = nI n) (h10 : n ≤ 360) (x : Int32) : q_ConI yX8_digit cX8_digit 2 (some .int) 0 0 tyM alM [.ref 0, .int x] (f, g, rfM) (fun v h' => v = (if x.toInt < 0 then -2 else if x.toInt < n then f 45 x.toNatClampNeg else 0) ∧ h' = (f, g, rfM)) := by
  refine q_Con.of RX8 [some (.ref 0), some (.int x)] (by decide +kernel) rfl rfl (Nat.le_of_ble_eq_true rfl) (fun C ad E Z => ?_)
  have hni : (f 0 46).toInt = n := by rw [hn]; exact nI_toInt (by omega)
  refine g_aload_0 E dX8_digit_0 ?_
  refine g_iconst (v := 0) E dX8_digit_1 (by decide) ?_
  refine g_putI E (by first | rfl | assumption) (by first | rfl | assumption) fw_X8_137 rfl dX8_digit_2 ?_
  rw [q_up_same ht]
  refine g_iload_1 E dX8_digit_5 ?_
  refine g_if_ge (tgt := 14) E dX8_digit_6 (by decide) (fun c_6 => ?_) (fun c_6 => ?_)
  · have k_6 := c_6
    simp only [q_ilt, q_ile, q_ieq, Int32.reduceToInt, Int32.toInt_zero] at k_6
    refine g_iload_1 E dX8_digit_14 ?_
    refine g_aload_0 E dX8_digit_15 ?_
    refine g_getI E (by first | rfl | assumption) (by first | rfl | assumption) fl_X8_246 rfl dX8_digit_16 ?_
    refine g_icmp_ge (tgt := 31) E dX8_digit_19 (by decide) (fun c_19 => ?_) (fun c_19 => ?_)
    · have k_19 := q_ile.mp c_19
      rw [hni] at k_19
      refine g_iconst (v := 0) E dX8_digit_31 (by decide) ?_
      exact g_iret E Z dX8_digit_32 ⟨_, rfl, ⟨by first | (rw [if_pos (by omega)]; done) | (rw [if_neg (by omega), if_neg (by omega)]; done) | (rw [if_neg (by omega), if_pos (by omega), nI_clamp (by omega)]), rfl⟩⟩
    · have k_19 := (not_congr q_ile).mp c_19
      rw [hni] at k_19
      obtain ⟨j, hj, rfl⟩ := q_nat (b := n - 1) (x := x) (by omega) (by omega)
      have e1 : (nI j).toInt = j := nI_toInt (by omega)
      refine g_aload_0 E dX8_digit_22 ?_
      refine g_getR E (by first | rfl | assumption) (by first | rfl | assumption) fl_X8_131 rfl (by first | rfl | assumption) dX8_digit_23 ?_
      refine g_iload_1 E dX8_digit_26 ?_
      refine g_iald E (by first | rfl | assumption) (by first | rfl | assumption) dX8_digit_27 (q_ix_n (by omega)) ?_
      refine g_goto (tgt := 32) E dX8_digit_28 (by decide) ?_
      exact g_iret E Z dX8_digit_32 ⟨_, rfl, ⟨by first | (rw [if_pos (by omega)]; done) | (rw [if_neg (by omega), if_neg (by omega)]; done) | (rw [if_neg (by omega), if_pos (by omega), nI_clamp (by omega)]), rfl⟩⟩
  · have k_6 := c_6
    simp only [q_ilt, q_ile, q_ieq, Int32.reduceToInt, Int32.toInt_zero] at k_6
    refine g_bipush (v := -2) E dX8_digit_9 (by decide) ?_
    refine g_goto (tgt := 32) E dX8_digit_11 (by decide) ?_
    exact g_iret E Z dX8_digit_32 ⟨_, rfl, ⟨by first | (rw [if_pos (by omega)]; done) | (rw [if_neg (by omega), if_neg (by omega)]; done) | (rw [if_neg (by omega), if_pos (by omega), nI_clamp (by omega)]), rfl⟩⟩
def q_cnt (fl : Nat → Int32) (wd : Nat → Int32) (x : Int32) : Int32 := if x = 0 then fl 5 else if x = 1 then fl 6 else if x = 2 then fl 7 else if x = 3 then fl 8 else if x = 4 then fl 9 else if x = 5 then fl 10 else if x = 6 then fl 11 else if x = 7 then fl 13 else if x = 8 then fl 14 else if x = 9 then q_sum (fun s => if wd s < 0 then 0 else 1) 4 else -1
set_option maxHeartbeats 4000000 in
set_option maxRecDepth 100000 in
theorem c_X8_count {f : Nat → Nat → Int32} {g : Nat → Nat → Int64} (ht : f 0 0 = 0) (x : Int32) : q_ConI yX8_count cX8_count 4 (some .int) 0 0 tyM alM [.ref 0, .int x] (f, g, rfM) (fun v h' => v = q_cnt (f 0) (f 1) x ∧ h' = (f, g, rfM)) := by
  refine q_Con.of RX8 [some (.ref 0), some (.int x), none, none] (by decide +kernel) rfl rfl (Nat.le_of_ble_eq_true rfl) (fun C ad E Z => ?_)
  have L : ∀ (y : Int32), (∀ v : Int32, v = q_sum (fun s => if f 1 s < 0 then 0 else 1) 4 → v = q_cnt (f 0) (f 1) x) → ∀ i, i ≤ 4 → gg C tyM 4 0 0 alM ad 109 [some (.ref 0), some (.int y), some (.int (q_sum (fun s => if f 1 s < 0 then 0 else 1) i)), some (.int (nI i))] [] (f, g, rfM) := by
    intro y hv
    refine q_loop 4 (fun i hi ih => ?_)
    refine g_iload_3 E dX8_count_109 ?_
    refine g_iconst (v := 4) E dX8_count_110 (by decide) ?_
    refine g_icmp_ge (tgt := 137) E dX8_count_111 (by decide) (fun c_111 => ?_) (fun c_111 => ?_)
    · have e_111 := (q_ge (x := 4) (y := i) rfl rfl (by omega) (by omega)).mp c_111
      refine g_iload_2 E dX8_count_137 ?_
      exact g_iret E Z dX8_count_138 ⟨_, rfl, ⟨hv _ (by rw [show i = 4 by omega]), rfl⟩⟩
    · have e_111 := (not_congr (q_ge (x := 4) (y := i) rfl rfl (by omega) (by omega))).mp c_111
      refine g_iload_2 E dX8_count_114 ?_
      refine g_aload_0 E dX8_count_115 ?_
      refine g_getR E (by first | rfl | assumption) (by first | rfl | assumption) fl_X8_9 rfl (by first | rfl | assumption) dX8_count_116 ?_
      refine g_iload_3 E dX8_count_119 ?_
      refine g_iald E (by first | rfl | assumption) (by first | rfl | assumption) dX8_count_120 (q_ix_n (by omega)) ?_
      refine g_if_lt (tgt := 128) E dX8_count_121 (by decide) (fun c_121 => ?_) (fun c_121 => ?_)
      · refine g_iconst (v := 0) E dX8_count_128 (by decide) ?_
        refine g_iadd E dX8_count_129 ?_
        refine g_istore_2 E dX8_count_130 (by decide) rfl ?_
        refine g_iinc_3 (u := 1) E dX8_count_131 (by decide) (by decide) rfl ?_
        refine g_goto (tgt := 109) E dX8_count_134 (by decide) ?_
        rw [nI_1]
        have e := ih (by omega)
        rw [q_sum] at e
        first | (rw [if_pos c_121] at e; exact e) | (rw [if_neg c_121] at e; exact e)
      · refine g_iconst (v := 1) E dX8_count_124 (by decide) ?_
        refine g_goto (tgt := 129) E dX8_count_125 (by decide) ?_
        refine g_iadd E dX8_count_129 ?_
        refine g_istore_2 E dX8_count_130 (by decide) rfl ?_
        refine g_iinc_3 (u := 1) E dX8_count_131 (by decide) (by decide) rfl ?_
        refine g_goto (tgt := 109) E dX8_count_134 (by decide) ?_
        rw [nI_1]
        have e := ih (by omega)
        rw [q_sum] at e
        first | (rw [if_pos c_121] at e; exact e) | (rw [if_neg c_121] at e; exact e)
  refine g_aload_0 E dX8_count_0 ?_
  refine g_iconst (v := 0) E dX8_count_1 (by decide) ?_
  refine g_putI E (by first | rfl | assumption) (by first | rfl | assumption) fw_X8_137 rfl dX8_count_2 ?_
  rw [q_up_same ht]
  refine g_iload_1 E dX8_count_5 ?_
  by_cases e_0 : x = 0
  · subst e_0
    refine g_tableIn (off := 54) (tgt := 60) E dX8_count_6 (by decide) (by decide) (by decide) (by decide) ?_
    refine g_aload_0 E dX8_count_60 ?_
    refine g_getI E (by first | rfl | assumption) (by first | rfl | assumption) fl_X8_154 rfl dX8_count_61 ?_
    exact g_iret E Z dX8_count_64 ⟨_, rfl, ⟨by unfold q_cnt; simp [*], rfl⟩⟩
  by_cases e_1 : x = 1
  · subst e_1
    refine g_tableIn (off := 59) (tgt := 65) E dX8_count_6 (by decide) (by decide) (by decide) (by decide) ?_
    refine g_aload_0 E dX8_count_65 ?_
    refine g_getI E (by first | rfl | assumption) (by first | rfl | assumption) fl_X8_23 rfl dX8_count_66 ?_
    exact g_iret E Z dX8_count_69 ⟨_, rfl, ⟨by unfold q_cnt; simp [*], rfl⟩⟩
  by_cases e_2 : x = 2
  · subst e_2
    refine g_tableIn (off := 64) (tgt := 70) E dX8_count_6 (by decide) (by decide) (by decide) (by decide) ?_
    refine g_aload_0 E dX8_count_70 ?_
    refine g_getI E (by first | rfl | assumption) (by first | rfl | assumption) fl_X8_27 rfl dX8_count_71 ?_
    exact g_iret E Z dX8_count_74 ⟨_, rfl, ⟨by unfold q_cnt; simp [*], rfl⟩⟩
  by_cases e_3 : x = 3
  · subst e_3
    refine g_tableIn (off := 69) (tgt := 75) E dX8_count_6 (by decide) (by decide) (by decide) (by decide) ?_
    refine g_aload_0 E dX8_count_75 ?_
    refine g_getI E (by first | rfl | assumption) (by first | rfl | assumption) fl_X8_30 rfl dX8_count_76 ?_
    exact g_iret E Z dX8_count_79 ⟨_, rfl, ⟨by unfold q_cnt; simp [*], rfl⟩⟩
  by_cases e_4 : x = 4
  · subst e_4
    refine g_tableIn (off := 74) (tgt := 80) E dX8_count_6 (by decide) (by decide) (by decide) (by decide) ?_
    refine g_aload_0 E dX8_count_80 ?_
    refine g_getI E (by first | rfl | assumption) (by first | rfl | assumption) fl_X8_33 rfl dX8_count_81 ?_
    exact g_iret E Z dX8_count_84 ⟨_, rfl, ⟨by unfold q_cnt; simp [*], rfl⟩⟩
  by_cases e_5 : x = 5
  · subst e_5
    refine g_tableIn (off := 79) (tgt := 85) E dX8_count_6 (by decide) (by decide) (by decide) (by decide) ?_
    refine g_aload_0 E dX8_count_85 ?_
    refine g_getI E (by first | rfl | assumption) (by first | rfl | assumption) fl_X8_253 rfl dX8_count_86 ?_
    exact g_iret E Z dX8_count_89 ⟨_, rfl, ⟨by unfold q_cnt; simp [*], rfl⟩⟩
  by_cases e_6 : x = 6
  · subst e_6
    refine g_tableIn (off := 84) (tgt := 90) E dX8_count_6 (by decide) (by decide) (by decide) (by decide) ?_
    refine g_aload_0 E dX8_count_90 ?_
    refine g_getI E (by first | rfl | assumption) (by first | rfl | assumption) fl_X8_250 rfl dX8_count_91 ?_
    exact g_iret E Z dX8_count_94 ⟨_, rfl, ⟨by unfold q_cnt; simp [*], rfl⟩⟩
  by_cases e_7 : x = 7
  · subst e_7
    refine g_tableIn (off := 89) (tgt := 95) E dX8_count_6 (by decide) (by decide) (by decide) (by decide) ?_
    refine g_aload_0 E dX8_count_95 ?_
    refine g_getI E (by first | rfl | assumption) (by first | rfl | assumption) fl_X8_199 rfl dX8_count_96 ?_
    exact g_iret E Z dX8_count_99 ⟨_, rfl, ⟨by unfold q_cnt; simp [*], rfl⟩⟩
  by_cases e_8 : x = 8
  · subst e_8
    refine g_tableIn (off := 94) (tgt := 100) E dX8_count_6 (by decide) (by decide) (by decide) (by decide) ?_
    refine g_aload_0 E dX8_count_100 ?_
    refine g_getI E (by first | rfl | assumption) (by first | rfl | assumption) fl_X8_196 rfl dX8_count_101 ?_
    exact g_iret E Z dX8_count_104 ⟨_, rfl, ⟨by unfold q_cnt; simp [*], rfl⟩⟩
  by_cases e_9 : x = 9
  · subst e_9
    refine g_tableIn (off := 99) (tgt := 105) E dX8_count_6 (by decide) (by decide) (by decide) (by decide) ?_
    refine g_iconst (v := 0) E dX8_count_105 (by decide) ?_
    refine g_istore_2 E dX8_count_106 (by decide) rfl ?_
    refine g_iconst (v := 0) E dX8_count_107 (by decide) ?_
    refine g_istore_3 E dX8_count_108 (by decide) rfl ?_
    exact L _ (fun v h => h) 0 (Nat.zero_le _)
  have e_o : x.toInt < 0 ∨ 9 < x.toInt := by
    simp only [q_ieq, Int32.reduceToInt, Int32.toInt_zero] at e_0 e_1 e_2 e_3 e_4 e_5 e_6 e_7 e_8 e_9
    omega
  refine g_tableOut (tgt := 139) E dX8_count_6 e_o (by decide) ?_
  refine g_iconst (v := -1) E dX8_count_139 (by decide) ?_
  exact g_iret E Z dX8_count_140 ⟨_, rfl, ⟨by unfold q_cnt; simp [*], rfl⟩⟩
def q_gwo (rm up gt : Nat → Int32) (n : Nat) (y x : Int32) : Int32 := if ¬ (0 ≤ y.toInt ∧ y.toInt ≤ 2) then -2 else if x = 0 then rm y.toNatClampNeg else if x = 1 then (if up y.toNatClampNeg = 0 then 0 else 1) else if x = 2 then q_sum (fun c => if gt c = y then 1 else 0) n else -2
set_option maxHeartbeats 4000000 in
set_option maxRecDepth 100000 in
theorem c_X8_gatewayOf {f : Nat → Nat → Int32} {g : Nat → Nat → Int64} (ht : f 0 0 = 0) (n : Nat) (hn : f 0 5 = nI n) (h10 : n ≤ 10) (y x : Int32) : q_ConI yX8_gatewayOf cX8_gatewayOf 5 (some .int) 2 45 tyM alM [.ref 0, .int y, .int x] (f, g, rfM) (fun v h' => v = q_gwo (f 27) (f 28) (f 18) n y x ∧ h' = (f, g, rfM)) := by
  refine q_Con.of RX8 [some (.ref 0), some (.int y), some (.int x), none, none] (by decide +kernel) rfl rfl (Nat.le_of_ble_eq_true rfl) (fun C ad E Z => ?_)
  have L : ∀ j, j ≤ 2 → y = nI j → ∀ i, i ≤ n → gg C tyM 5 0 0 alM ad 20 [some (.ref 0), some (.int y), some (.int x), some (.int (q_sum (fun c => if f 18 c = y then 1 else 0) i)), some (.int (nI i))] [] (f, g, rfM) := by
    intro j hj ey
    subst ey
    have k0 : (0 ≤ (nI j).toInt ∧ (nI j).toInt ≤ 2) := by rw [nI_toInt (by omega)]; omega
    have kS : (nI j).toNatClampNeg = j := nI_clamp (by omega)
    refine q_loop n (fun i hi ih => ?_)
    refine g_iload_4 E dX8_gatewayOf_20 ?_
    refine g_aload_0 E dX8_gatewayOf_22 ?_
    refine g_getI E (by first | rfl | assumption) (by first | rfl | assumption) fl_X8_154 rfl dX8_gatewayOf_23 ?_
    refine g_icmp_ge (tgt := 54) E dX8_gatewayOf_26 (by decide) (fun c_26 => ?_) (fun c_26 => ?_)
    · have e_26 := (q_ge (x := n) (y := i) hn rfl (by omega) (by omega)).mp c_26
      refine g_iload_2 E dX8_gatewayOf_54 ?_
      refine g_if_ne (tgt := 67) E dX8_gatewayOf_55 (by decide) (fun c_55 => ?_) (fun c_55 => ?_)
      · refine g_iload_2 E dX8_gatewayOf_67 ?_
        refine g_iconst (v := 1) E dX8_gatewayOf_68 (by decide) ?_
        refine g_icmp_ne (tgt := 89) E dX8_gatewayOf_69 (by decide) (fun c_69 => ?_) (fun c_69 => ?_)
        · refine g_iload_2 E dX8_gatewayOf_89 ?_
          refine g_iconst (v := 2) E dX8_gatewayOf_90 (by decide) ?_
          refine g_icmp_ne (tgt := 98) E dX8_gatewayOf_91 (by decide) (fun c_91 => ?_) (fun c_91 => ?_)
          · refine g_bipush (v := -2) E dX8_gatewayOf_98 (by decide) ?_
            exact g_iret E Z dX8_gatewayOf_100 ⟨_, rfl, ⟨by unfold q_gwo; rw [if_neg (not_not_intro k0), kS]; first | (rw [show i = n by omega]; simp [*]; done) | (simp [*]; done), rfl⟩⟩
          · refine g_iload_3 E dX8_gatewayOf_94 ?_
            refine g_goto (tgt := 100) E dX8_gatewayOf_95 (by decide) ?_
            exact g_iret E Z dX8_gatewayOf_100 ⟨_, rfl, ⟨by unfold q_gwo; rw [if_neg (not_not_intro k0), kS]; first | (rw [show i = n by omega]; simp [*]; done) | (simp [*]; done), rfl⟩⟩
        · refine g_aload_0 E dX8_gatewayOf_72 ?_
          refine g_getR E (by first | rfl | assumption) (by first | rfl | assumption) fl_X8_78 rfl (by first | rfl | assumption) dX8_gatewayOf_73 ?_
          refine g_iload_1 E dX8_gatewayOf_76 ?_
          first | refine g_zald E (by first | rfl | assumption) (by first | rfl | assumption) dX8_gatewayOf_77 (q_ix_n (by omega)) ?_ | refine g_bald E (by first | rfl | assumption) (by first | rfl | assumption) dX8_gatewayOf_77 (q_ix_n (by omega)) ?_
          refine g_if_eq (tgt := 85) E dX8_gatewayOf_78 (by decide) (fun c_78 => ?_) (fun c_78 => ?_)
          · refine g_iconst (v := 0) E dX8_gatewayOf_85 (by decide) ?_
            refine g_goto (tgt := 100) E dX8_gatewayOf_86 (by decide) ?_
            exact g_iret E Z dX8_gatewayOf_100 ⟨_, rfl, ⟨by unfold q_gwo; rw [if_neg (not_not_intro k0), kS]; first | (rw [show i = n by omega]; simp [*]; done) | (simp [*]; done), rfl⟩⟩
          · refine g_iconst (v := 1) E dX8_gatewayOf_81 (by decide) ?_
            refine g_goto (tgt := 100) E dX8_gatewayOf_82 (by decide) ?_
            exact g_iret E Z dX8_gatewayOf_100 ⟨_, rfl, ⟨by unfold q_gwo; rw [if_neg (not_not_intro k0), kS]; first | (rw [show i = n by omega]; simp [*]; done) | (simp [*]; done), rfl⟩⟩
      · refine g_aload_0 E dX8_gatewayOf_58 ?_
        refine g_getR E (by first | rfl | assumption) (by first | rfl | assumption) fl_X8_75 rfl (by first | rfl | assumption) dX8_gatewayOf_59 ?_
        refine g_iload_1 E dX8_gatewayOf_62 ?_
        refine g_iald E (by first | rfl | assumption) (by first | rfl | assumption) dX8_gatewayOf_63 (q_ix_n (by omega)) ?_
        refine g_goto (tgt := 100) E dX8_gatewayOf_64 (by decide) ?_
        exact g_iret E Z dX8_gatewayOf_100 ⟨_, rfl, ⟨by unfold q_gwo; rw [if_neg (not_not_intro k0), kS]; first | (rw [show i = n by omega]; simp [*]; done) | (simp [*]; done), rfl⟩⟩
    · have e_26 := (not_congr (q_ge (x := n) (y := i) hn rfl (by omega) (by omega))).mp c_26
      refine g_iload_3 E dX8_gatewayOf_29 ?_
      refine g_aload_0 E dX8_gatewayOf_30 ?_
      refine g_getR E (by first | rfl | assumption) (by first | rfl | assumption) fl_X8_48 rfl (by first | rfl | assumption) dX8_gatewayOf_31 ?_
      refine g_iload_4 E dX8_gatewayOf_34 ?_
      refine g_iald E (by first | rfl | assumption) (by first | rfl | assumption) dX8_gatewayOf_36 (q_ix_n (by omega)) ?_
      refine g_iload_1 E dX8_gatewayOf_37 ?_
      refine g_icmp_ne (tgt := 45) E dX8_gatewayOf_38 (by decide) (fun c_38 => ?_) (fun c_38 => ?_)
      · refine g_iconst (v := 0) E dX8_gatewayOf_45 (by decide) ?_
        refine g_iadd E dX8_gatewayOf_46 ?_
        refine g_istore_3 E dX8_gatewayOf_47 (by decide) rfl ?_
        refine g_iinc_4 (u := 1) E dX8_gatewayOf_48 (by decide) (by decide) rfl ?_
        refine g_goto (tgt := 20) E dX8_gatewayOf_51 (by decide) ?_
        rw [nI_1]
        have e := ih (by omega)
        rw [q_sum] at e
        first | (rw [if_pos c_38] at e; exact e) | (rw [if_neg c_38] at e; exact e)
      · refine g_iconst (v := 1) E dX8_gatewayOf_41 (by decide) ?_
        refine g_goto (tgt := 46) E dX8_gatewayOf_42 (by decide) ?_
        refine g_iadd E dX8_gatewayOf_46 ?_
        refine g_istore_3 E dX8_gatewayOf_47 (by decide) rfl ?_
        refine g_iinc_4 (u := 1) E dX8_gatewayOf_48 (by decide) (by decide) rfl ?_
        refine g_goto (tgt := 20) E dX8_gatewayOf_51 (by decide) ?_
        rw [nI_1]
        have e := ih (by omega)
        rw [q_sum] at e
        first | (rw [if_pos c_38] at e; exact e) | (rw [if_neg c_38] at e; exact e)
  refine g_aload_0 E dX8_gatewayOf_0 ?_
  refine g_iconst (v := 0) E dX8_gatewayOf_1 (by decide) ?_
  refine g_putI E (by first | rfl | assumption) (by first | rfl | assumption) fw_X8_137 rfl dX8_gatewayOf_2 ?_
  rw [q_up_same ht]
  refine g_iload_1 E dX8_gatewayOf_5 ?_
  refine g_cSi1 E (c_X8_isGate _) cw_X8_172 (by decide) (by decide) (Nat.le_of_ble_eq_true rfl) dX8_gatewayOf_6 (fun v_6 h_6 hp => ?_)
  obtain ⟨rfl, rfl⟩ := hp
  refine g_if_ne (tgt := 15) E dX8_gatewayOf_9 (by decide) (fun c_9 => ?_) (fun c_9 => ?_)
  · have k_9 := q_b1.mp c_9
    obtain ⟨j, hj, ey⟩ := q_nat (b := 2) k_9.1 k_9.2
    refine g_iconst (v := 0) E dX8_gatewayOf_15 (by decide) ?_
    refine g_istore_3 E dX8_gatewayOf_16 (by decide) rfl ?_
    refine g_iconst (v := 0) E dX8_gatewayOf_17 (by decide) ?_
    refine g_istore_4 E dX8_gatewayOf_18 (by decide) rfl ?_
    exact L j hj ey 0 (Nat.zero_le _)
  · have k_9 := q_b0.mp c_9
    refine g_bipush (v := -2) E dX8_gatewayOf_12 (by decide) ?_
    exact g_iret E Z dX8_gatewayOf_14 ⟨_, rfl, ⟨by unfold q_gwo; rw [if_pos k_9], rfl⟩⟩
def q_old (a : Nat → Int32) : Nat → Int32
  | 0 => -1
  | k + 1 => if 0 < a k then nI k else q_old a k
def q_cel (f : Nat → Nat → Int32) (j : Nat) (x : Int32) : Int32 := if x = 0 then f 15 j * (2 + f 22 j) / 2 else if x = 1 then q_rate (f 22 j) (f 16 j) else if x = 2 then f 18 j else if x = 3 then f 19 j else if x = 4 then f 20 j else if x = 5 then f 21 j else if x = 6 then q_sum (fun k => f 30 (21 * j + k)) 21 else if x = 7 then q_old (fun k => f 30 (21 * j + k)) 21 else if x = 8 then f 25 j else if x = 9 then f 26 j else if x = 10 then f 23 j else if x = 11 then f 22 j else if x = 12 then f 17 j else -2
set_option maxHeartbeats 4000000 in
set_option maxRecDepth 100000 in
theorem c_X8_cellOf {f : Nat → Nat → Int32} {g : Nat → Nat → Int64} (ht : f 0 0 = 0) (n : Nat) (hn : f 0 5 = nI n) (h10 : n ≤ 10) (c x : Int32) : q_ConI yX8_cellOf cX8_cellOf 5 (some .int) 2 46 tyM alM [.ref 0, .int c, .int x] (f, g, rfM) (fun v h' => v = (if 0 ≤ c.toInt ∧ c.toInt < n then q_cel f c.toNatClampNeg x else -2) ∧ h' = (f, g, rfM)) := by
  refine q_Con.of RX8 [some (.ref 0), some (.int c), some (.int x), none, none] (by decide +kernel) rfl rfl (Nat.le_of_ble_eq_true rfl) (fun C ad E Z => ?_)
  have L : ∀ j, j < n → c = nI j → ∀ y, (∀ v, v = q_old (fun k => f 30 (21 * j + k)) 21 → v = (if 0 ≤ c.toInt ∧ c.toInt < n then q_cel f c.toNatClampNeg x else -2)) → ∀ i, i ≤ 21 → gg C tyM 5 0 0 alM ad 135 [some (.ref 0), some (.int c), some (.int y), some (.int (q_old (fun k => f 30 (21 * j + k)) i)), some (.int (nI i))] [] (f, g, rfM) := by
    intro j hj ec y hv
    subst ec
    refine q_loop 21 (fun i hi ih => ?_)
    refine g_iload_4 E dX8_cellOf_135 ?_
    refine g_bipush (v := 21) E dX8_cellOf_137 (by decide) ?_
    refine g_icmp_ge (tgt := 166) E dX8_cellOf_139 (by decide) (fun c_139 => ?_) (fun c_139 => ?_)
    · have e_139 := (q_ge (x := 21) (y := i) rfl rfl (by omega) (by omega)).mp c_139
      refine g_iload_3 E dX8_cellOf_166 ?_
      exact g_iret E Z dX8_cellOf_167 ⟨_, rfl, ⟨hv _ (by rw [show i = 21 by omega]), rfl⟩⟩
    · have e_139 := (not_congr (q_ge (x := 21) (y := i) rfl rfl (by omega) (by omega))).mp c_139
      refine g_aload_0 E dX8_cellOf_142 ?_
      refine g_getR E (by first | rfl | assumption) (by first | rfl | assumption) fl_X8_85 rfl (by first | rfl | assumption) dX8_cellOf_143 ?_
      refine g_bipush (v := 21) E dX8_cellOf_146 (by decide) ?_
      refine g_iload_1 E dX8_cellOf_148 ?_
      refine g_imul E dX8_cellOf_149 ?_
      refine g_iload_4 E dX8_cellOf_150 ?_
      refine g_iadd E dX8_cellOf_152 ?_
      refine g_iald E (by first | rfl | assumption) (by first | rfl | assumption) dX8_cellOf_153 (q_ix_e (q_21 _ _) (by omega)) ?_
      refine g_if_le (tgt := 160) E dX8_cellOf_154 (by decide) (fun c_154 => ?_) (fun c_154 => ?_)
      · have k154 : ¬ 0 < f 30 (21 * j + i) := fun q => absurd c_154 (Int32.not_le.mpr q)
        refine g_iinc_4 (u := 1) E dX8_cellOf_160 (by decide) (by decide) rfl ?_
        refine g_goto (tgt := 135) E dX8_cellOf_163 (by decide) ?_
        rw [nI_1]
        have e := ih (by omega)
        rw [q_old] at e
        first | (rw [if_pos k154] at e; exact e) | (rw [if_neg k154] at e; exact e)
      · have k154 : 0 < f 30 (21 * j + i) := Int32.not_le.mp c_154
        refine g_iload_4 E dX8_cellOf_157 ?_
        refine g_istore_3 E dX8_cellOf_159 (by decide) rfl ?_
        refine g_iinc_4 (u := 1) E dX8_cellOf_160 (by decide) (by decide) rfl ?_
        refine g_goto (tgt := 135) E dX8_cellOf_163 (by decide) ?_
        rw [nI_1]
        have e := ih (by omega)
        rw [q_old] at e
        first | (rw [if_pos k154] at e; exact e) | (rw [if_neg k154] at e; exact e)
  refine g_aload_0 E dX8_cellOf_0 ?_
  refine g_iconst (v := 0) E dX8_cellOf_1 (by decide) ?_
  refine g_putI E (by first | rfl | assumption) (by first | rfl | assumption) fw_X8_137 rfl dX8_cellOf_2 ?_
  rw [q_up_same ht]
  refine g_aload_0 E dX8_cellOf_5 ?_
  refine g_iload_1 E dX8_cellOf_6 ?_
  refine g_cVi1 E (c_X8_isCell n (by exact hn) h10 _) cw_X8_169 (by decide) (by decide) (by first | rfl | assumption) (by first | rfl | assumption) (Nat.le_of_ble_eq_true rfl) dX8_cellOf_7 (fun v_7 h_7 hp => ?_)
  obtain ⟨rfl, rfl⟩ := hp
  refine g_if_ne (tgt := 16) E dX8_cellOf_10 (by decide) (fun c_10 => ?_) (fun c_10 => ?_)
  · have k_10 := q_b1.mp c_10
    obtain ⟨j, hj, rfl⟩ := q_nat (b := n - 1) k_10.1 (by omega)
    have hjn : j < n := by have := k_10.2; rw [nI_toInt (by omega)] at this; omega
    have kc : (nI j).toNatClampNeg = j := nI_clamp (by omega)
    refine g_iload_2 E dX8_cellOf_16 ?_
    by_cases e_0 : x = 0
    · subst e_0
      refine g_tableIn (off := 67) (tgt := 84) E dX8_cellOf_17 (by decide) (by decide) (by decide) (by decide) ?_
      refine g_aload_0 E dX8_cellOf_84 ?_
      refine g_iload_1 E dX8_cellOf_85 ?_
      refine g_cVi1 E (c_X8_powerNow (n := n) j (by omega)) cw_X8_185 (by decide) (by decide) (by first | rfl | assumption) (by first | rfl | assumption) (Nat.le_of_ble_eq_true rfl) dX8_cellOf_86 (fun v_86 h_86 hp => ?_)
      obtain ⟨rfl, rfl⟩ := hp
      exact g_iret E Z dX8_cellOf_89 ⟨_, rfl, ⟨by rw [if_pos k_10, kc]; unfold q_cel; first | (simp; done) | (simp [*]; done), rfl⟩⟩
    by_cases e_1 : x = 1
    · subst e_1
      refine g_tableIn (off := 73) (tgt := 90) E dX8_cellOf_17 (by decide) (by decide) (by decide) (by decide) ?_
      refine g_aload_0 E dX8_cellOf_90 ?_
      refine g_iload_1 E dX8_cellOf_91 ?_
      refine g_cVi1 E (c_X8_rateNow j (by omega)) cw_X8_259 (by decide) (by decide) (by first | rfl | assumption) (by first | rfl | assumption) (Nat.le_of_ble_eq_true rfl) dX8_cellOf_92 (fun v_92 h_92 hp => ?_)
      obtain ⟨rfl, rfl⟩ := hp
      exact g_iret E Z dX8_cellOf_95 ⟨_, rfl, ⟨by rw [if_pos k_10, kc]; unfold q_cel; first | (simp; done) | (simp [*]; done), rfl⟩⟩
    by_cases e_2 : x = 2
    · subst e_2
      refine g_tableIn (off := 79) (tgt := 96) E dX8_cellOf_17 (by decide) (by decide) (by decide) (by decide) ?_
      refine g_aload_0 E dX8_cellOf_96 ?_
      refine g_getR E (by first | rfl | assumption) (by first | rfl | assumption) fl_X8_48 rfl (by first | rfl | assumption) dX8_cellOf_97 ?_
      refine g_iload_1 E dX8_cellOf_100 ?_
      refine g_iald E (by first | rfl | assumption) (by first | rfl | assumption) dX8_cellOf_101 (q_ix_n (by omega)) ?_
      exact g_iret E Z dX8_cellOf_102 ⟨_, rfl, ⟨by rw [if_pos k_10, kc]; unfold q_cel; first | (simp; done) | (simp [*]; done), rfl⟩⟩
    by_cases e_3 : x = 3
    · subst e_3
      refine g_tableIn (off := 86) (tgt := 103) E dX8_cellOf_17 (by decide) (by decide) (by decide) (by decide) ?_
      refine g_aload_0 E dX8_cellOf_103 ?_
      refine g_getR E (by first | rfl | assumption) (by first | rfl | assumption) fl_X8_51 rfl (by first | rfl | assumption) dX8_cellOf_104 ?_
      refine g_iload_1 E dX8_cellOf_107 ?_
      refine g_iald E (by first | rfl | assumption) (by first | rfl | assumption) dX8_cellOf_108 (q_ix_n (by omega)) ?_
      exact g_iret E Z dX8_cellOf_109 ⟨_, rfl, ⟨by rw [if_pos k_10, kc]; unfold q_cel; first | (simp; done) | (simp [*]; done), rfl⟩⟩
    by_cases e_4 : x = 4
    · subst e_4
      refine g_tableIn (off := 93) (tgt := 110) E dX8_cellOf_17 (by decide) (by decide) (by decide) (by decide) ?_
      refine g_aload_0 E dX8_cellOf_110 ?_
      refine g_getR E (by first | rfl | assumption) (by first | rfl | assumption) fl_X8_54 rfl (by first | rfl | assumption) dX8_cellOf_111 ?_
      refine g_iload_1 E dX8_cellOf_114 ?_
      refine g_iald E (by first | rfl | assumption) (by first | rfl | assumption) dX8_cellOf_115 (q_ix_n (by omega)) ?_
      exact g_iret E Z dX8_cellOf_116 ⟨_, rfl, ⟨by rw [if_pos k_10, kc]; unfold q_cel; first | (simp; done) | (simp [*]; done), rfl⟩⟩
    by_cases e_5 : x = 5
    · subst e_5
      refine g_tableIn (off := 100) (tgt := 117) E dX8_cellOf_17 (by decide) (by decide) (by decide) (by decide) ?_
      refine g_aload_0 E dX8_cellOf_117 ?_
      refine g_getR E (by first | rfl | assumption) (by first | rfl | assumption) fl_X8_57 rfl (by first | rfl | assumption) dX8_cellOf_118 ?_
      refine g_iload_1 E dX8_cellOf_121 ?_
      refine g_iald E (by first | rfl | assumption) (by first | rfl | assumption) dX8_cellOf_122 (q_ix_n (by omega)) ?_
      exact g_iret E Z dX8_cellOf_123 ⟨_, rfl, ⟨by rw [if_pos k_10, kc]; unfold q_cel; first | (simp; done) | (simp [*]; done), rfl⟩⟩
    by_cases e_6 : x = 6
    · subst e_6
      refine g_tableIn (off := 107) (tgt := 124) E dX8_cellOf_17 (by decide) (by decide) (by decide) (by decide) ?_
      refine g_aload_0 E dX8_cellOf_124 ?_
      refine g_iload_1 E dX8_cellOf_125 ?_
      refine g_cVi1 E (c_X8_waiting j (by omega)) cw_X8_256 (by decide) (by decide) (by first | rfl | assumption) (by first | rfl | assumption) (Nat.le_of_ble_eq_true rfl) dX8_cellOf_126 (fun v_126 h_126 hp => ?_)
      obtain ⟨rfl, rfl⟩ := hp
      exact g_iret E Z dX8_cellOf_129 ⟨_, rfl, ⟨by rw [if_pos k_10, kc]; unfold q_cel; first | (simp; done) | (simp [*]; done), rfl⟩⟩
    by_cases e_7 : x = 7
    · subst e_7
      refine g_tableIn (off := 113) (tgt := 130) E dX8_cellOf_17 (by decide) (by decide) (by decide) (by decide) ?_
      refine g_iconst (v := -1) E dX8_cellOf_130 (by decide) ?_
      refine g_istore_3 E dX8_cellOf_131 (by decide) rfl ?_
      refine g_iconst (v := 0) E dX8_cellOf_132 (by decide) ?_
      refine g_istore_4 E dX8_cellOf_133 (by decide) rfl ?_
      exact L j hjn rfl _ (fun v h => by rw [h, if_pos k_10, kc]; unfold q_cel; simp) 0 (Nat.zero_le _)
    by_cases e_8 : x = 8
    · subst e_8
      refine g_tableIn (off := 151) (tgt := 168) E dX8_cellOf_17 (by decide) (by decide) (by decide) (by decide) ?_
      refine g_aload_0 E dX8_cellOf_168 ?_
      refine g_getR E (by first | rfl | assumption) (by first | rfl | assumption) fl_X8_69 rfl (by first | rfl | assumption) dX8_cellOf_169 ?_
      refine g_iload_1 E dX8_cellOf_172 ?_
      refine g_iald E (by first | rfl | assumption) (by first | rfl | assumption) dX8_cellOf_173 (q_ix_n (by omega)) ?_
      exact g_iret E Z dX8_cellOf_174 ⟨_, rfl, ⟨by rw [if_pos k_10, kc]; unfold q_cel; first | (simp; done) | (simp [*]; done), rfl⟩⟩
    by_cases e_9 : x = 9
    · subst e_9
      refine g_tableIn (off := 158) (tgt := 175) E dX8_cellOf_17 (by decide) (by decide) (by decide) (by decide) ?_
      refine g_aload_0 E dX8_cellOf_175 ?_
      refine g_getR E (by first | rfl | assumption) (by first | rfl | assumption) fl_X8_72 rfl (by first | rfl | assumption) dX8_cellOf_176 ?_
      refine g_iload_1 E dX8_cellOf_179 ?_
      refine g_iald E (by first | rfl | assumption) (by first | rfl | assumption) dX8_cellOf_180 (q_ix_n (by omega)) ?_
      exact g_iret E Z dX8_cellOf_181 ⟨_, rfl, ⟨by rw [if_pos k_10, kc]; unfold q_cel; first | (simp; done) | (simp [*]; done), rfl⟩⟩
    by_cases e_10 : x = 10
    · subst e_10
      refine g_tableIn (off := 165) (tgt := 182) E dX8_cellOf_17 (by decide) (by decide) (by decide) (by decide) ?_
      refine g_aload_0 E dX8_cellOf_182 ?_
      refine g_getR E (by first | rfl | assumption) (by first | rfl | assumption) fl_X8_63 rfl (by first | rfl | assumption) dX8_cellOf_183 ?_
      refine g_iload_1 E dX8_cellOf_186 ?_
      refine g_iald E (by first | rfl | assumption) (by first | rfl | assumption) dX8_cellOf_187 (q_ix_n (by omega)) ?_
      exact g_iret E Z dX8_cellOf_188 ⟨_, rfl, ⟨by rw [if_pos k_10, kc]; unfold q_cel; first | (simp; done) | (simp [*]; done), rfl⟩⟩
    by_cases e_11 : x = 11
    · subst e_11
      refine g_tableIn (off := 172) (tgt := 189) E dX8_cellOf_17 (by decide) (by decide) (by decide) (by decide) ?_
      refine g_aload_0 E dX8_cellOf_189 ?_
      refine g_getR E (by first | rfl | assumption) (by first | rfl | assumption) fl_X8_60 rfl (by first | rfl | assumption) dX8_cellOf_190 ?_
      refine g_iload_1 E dX8_cellOf_193 ?_
      refine g_iald E (by first | rfl | assumption) (by first | rfl | assumption) dX8_cellOf_194 (q_ix_n (by omega)) ?_
      exact g_iret E Z dX8_cellOf_195 ⟨_, rfl, ⟨by rw [if_pos k_10, kc]; unfold q_cel; first | (simp; done) | (simp [*]; done), rfl⟩⟩
    by_cases e_12 : x = 12
    · subst e_12
      refine g_tableIn (off := 179) (tgt := 196) E dX8_cellOf_17 (by decide) (by decide) (by decide) (by decide) ?_
      refine g_aload_0 E dX8_cellOf_196 ?_
      refine g_getR E (by first | rfl | assumption) (by first | rfl | assumption) fl_X8_45 rfl (by first | rfl | assumption) dX8_cellOf_197 ?_
      refine g_iload_1 E dX8_cellOf_200 ?_
      refine g_iald E (by first | rfl | assumption) (by first | rfl | assumption) dX8_cellOf_201 (q_ix_n (by omega)) ?_
      exact g_iret E Z dX8_cellOf_202 ⟨_, rfl, ⟨by rw [if_pos k_10, kc]; unfold q_cel; first | (simp; done) | (simp [*]; done), rfl⟩⟩
    have e_o : x.toInt < 0 ∨ 12 < x.toInt := by
      simp only [q_ieq, Int32.reduceToInt, Int32.toInt_zero] at e_0 e_1 e_2 e_3 e_4 e_5 e_6 e_7 e_8 e_9 e_10 e_11 e_12
      omega
    refine g_tableOut (tgt := 203) E dX8_cellOf_17 e_o (by decide) ?_
    refine g_bipush (v := -2) E dX8_cellOf_203 (by decide) ?_
    exact g_iret E Z dX8_cellOf_205 ⟨_, rfl, ⟨by rw [if_pos k_10, kc]; unfold q_cel; first | (simp; done) | (simp [*]; done), rfl⟩⟩
  · have k_10 := q_b0.mp c_10
    refine g_bipush (v := -2) E dX8_cellOf_13 (by decide) ?_
    exact g_iret E Z dX8_cellOf_15 ⟨_, rfl, ⟨by rw [if_neg k_10], rfl⟩⟩
set_option maxHeartbeats 4000000 in
set_option maxRecDepth 100000 in
theorem c_X8_forbid {f : Nat → Nat → Int32} {g : Nat → Nat → Int64} (ht : f 0 0 = 0) (n : Nat) (hn : f 0 5 = nI n) (h10 : n ≤ 10) (a b u : Int32) (hu : u = 0 ∨ u = 1) : q_ConI yX8_forbid cX8_forbid 4 (some .boolean) 2 46 tyM alM [.ref 0, .int a, .int b, .int u] (f, g, rfM) (fun v h' => (∃ A B : Nat, A < n ∧ B < n ∧ a = nI A ∧ b = nI B ∧ ¬ a = b ∧ ¬ q_bit (f 23 A) b = u ∧ v = 1 ∧ h' = (q_up (q_up f 23 A (f 23 A ^^^ (1 <<< (b &&& 31)))) 23 B (f 23 B ^^^ (1 <<< (a &&& 31))), g, rfM)) ∨ (¬ ((0 ≤ a.toInt ∧ a.toInt < n) ∧ (0 ≤ b.toInt ∧ b.toInt < n) ∧ ¬ a = b ∧ ¬ q_bit (f 23 a.toNatClampNeg) b = u) ∧ v = 0 ∧ h' = (f, g, rfM))) := by
  refine q_Con.of RX8 [some (.ref 0), some (.int a), some (.int b), some (.int u)] (by decide +kernel) rfl rfl (Nat.le_of_ble_eq_true rfl) (fun C ad E Z => ?_)
  refine g_aload_0 E dX8_forbid_0 ?_
  refine g_iconst (v := 0) E dX8_forbid_1 (by decide) ?_
  refine g_putI E (by first | rfl | assumption) (by first | rfl | assumption) fw_X8_137 rfl dX8_forbid_2 ?_
  rw [q_up_same ht]
  refine g_aload_0 E dX8_forbid_5 ?_
  refine g_iload_1 E dX8_forbid_6 ?_
  refine g_cVi1 E (c_X8_isCell n (by exact hn) h10 _) cw_X8_169 (by decide) (by decide) (by first | rfl | assumption) (by first | rfl | assumption) (Nat.le_of_ble_eq_true rfl) dX8_forbid_7 (fun v_7 h_7 hp => ?_)
  obtain ⟨rfl, rfl⟩ := hp
  refine g_if_eq (tgt := 48) E dX8_forbid_10 (by decide) (fun c_10 => ?_) (fun c_10 => ?_)
  · have k_10 := q_b0.mp c_10
    refine g_iconst (v := 0) E dX8_forbid_48 (by decide) ?_
    exact g_zret E Z dX8_forbid_49 rfl ⟨_, rfl, Or.inr ⟨by first | omega | (rintro ⟨_, _, q, _⟩; exact q c_23) | (rintro ⟨_, _, _, q⟩; rw [kA] at q; exact q k45), rfl, rfl⟩⟩
  · have k_10 := q_b1.mp c_10
    refine g_aload_0 E dX8_forbid_13 ?_
    refine g_iload_2 E dX8_forbid_14 ?_
    refine g_cVi1 E (c_X8_isCell n (by exact hn) h10 _) cw_X8_169 (by decide) (by decide) (by first | rfl | assumption) (by first | rfl | assumption) (Nat.le_of_ble_eq_true rfl) dX8_forbid_15 (fun v_15 h_15 hp => ?_)
    obtain ⟨rfl, rfl⟩ := hp
    refine g_if_eq (tgt := 48) E dX8_forbid_18 (by decide) (fun c_18 => ?_) (fun c_18 => ?_)
    · have k_18 := q_b0.mp c_18
      refine g_iconst (v := 0) E dX8_forbid_48 (by decide) ?_
      exact g_zret E Z dX8_forbid_49 rfl ⟨_, rfl, Or.inr ⟨by first | omega | (rintro ⟨_, _, q, _⟩; exact q c_23) | (rintro ⟨_, _, _, q⟩; rw [kA] at q; exact q k45), rfl, rfl⟩⟩
    · have k_18 := q_b1.mp c_18
      obtain ⟨A, hA, rfl⟩ := q_nat (b := n - 1) k_10.1 (by omega)
      have hAn : A < n := by have := k_10.2; rw [nI_toInt (by omega)] at this; omega
      obtain ⟨B, hB, rfl⟩ := q_nat (b := n - 1) k_18.1 (by omega)
      have hBn : B < n := by have := k_18.2; rw [nI_toInt (by omega)] at this; omega
      have kA : (nI A).toNatClampNeg = A := nI_clamp (by omega)
      refine g_iload_1 E dX8_forbid_21 ?_
      refine g_iload_2 E dX8_forbid_22 ?_
      refine g_icmp_eq (tgt := 48) E dX8_forbid_23 (by decide) (fun c_23 => ?_) (fun c_23 => ?_)
      · refine g_iconst (v := 0) E dX8_forbid_48 (by decide) ?_
        exact g_zret E Z dX8_forbid_49 rfl ⟨_, rfl, Or.inr ⟨by first | omega | (rintro ⟨_, _, q, _⟩; exact q c_23) | (rintro ⟨_, _, _, q⟩; rw [kA] at q; exact q k45), rfl, rfl⟩⟩
      · refine g_aload_0 E dX8_forbid_26 ?_
        refine g_getR E (by first | rfl | assumption) (by first | rfl | assumption) fl_X8_63 rfl (by first | rfl | assumption) dX8_forbid_27 ?_
        refine g_iload_1 E dX8_forbid_30 ?_
        refine g_iald E (by first | rfl | assumption) (by first | rfl | assumption) dX8_forbid_31 (q_ix_n (by omega)) ?_
        refine g_iload_2 E dX8_forbid_32 ?_
        refine g_ishr E dX8_forbid_33 ?_
        refine g_iconst (v := 1) E dX8_forbid_34 (by decide) ?_
        refine g_iand E dX8_forbid_35 ?_
        refine g_iload_3 E dX8_forbid_36 ?_
        refine g_if_eq (tgt := 44) E dX8_forbid_37 (by decide) (fun c_37 => ?_) (fun c_37 => ?_)
        · have ku : u = 0 := c_37
          refine g_iconst (v := 0) E dX8_forbid_44 (by decide) ?_
          refine g_icmp_ne (tgt := 50) E dX8_forbid_45 (by decide) (fun c_45 => ?_) (fun c_45 => ?_)
          · have k45 : ¬ q_bit (f 23 A) (nI B) = u := fun q => c_45 (q.trans ku)
            have hBA : B ≠ A := fun e => c_23 (by rw [e])
            refine g_aload_0 E dX8_forbid_50 ?_
            refine g_getR E (by first | rfl | assumption) (by first | rfl | assumption) fl_X8_63 rfl (by first | rfl | assumption) dX8_forbid_51 ?_
            refine g_iload_1 E dX8_forbid_54 ?_
            first | refine g_dupl E dX8_forbid_55 ?_ | refine g_dup2 E dX8_forbid_55 ?_
            refine g_iald E (by first | rfl | assumption) (by first | rfl | assumption) dX8_forbid_56 (q_ix_n (by omega)) ?_
            refine g_iconst (v := 1) E dX8_forbid_57 (by decide) ?_
            refine g_iload_2 E dX8_forbid_58 ?_
            refine g_ishl E dX8_forbid_59 ?_
            refine g_ixor E dX8_forbid_60 ?_
            refine g_iast E (by first | rfl | assumption) (by first | rfl | assumption) dX8_forbid_61 (q_ix_n (by omega)) ?_
            refine g_aload_0 E dX8_forbid_62 ?_
            refine g_getR E (by first | rfl | assumption) (by first | rfl | assumption) fl_X8_63 rfl (by first | rfl | assumption) dX8_forbid_63 ?_
            refine g_iload_2 E dX8_forbid_66 ?_
            first | refine g_dupl E dX8_forbid_67 ?_ | refine g_dup2 E dX8_forbid_67 ?_
            refine g_iald E (by first | rfl | assumption) (by first | rfl | assumption) dX8_forbid_68 (q_ix_n (by omega)) ?_
            refine g_iconst (v := 1) E dX8_forbid_69 (by decide) ?_
            refine g_iload_1 E dX8_forbid_70 ?_
            refine g_ishl E dX8_forbid_71 ?_
            refine g_ixor E dX8_forbid_72 ?_
            refine g_iast E (by first | rfl | assumption) (by first | rfl | assumption) dX8_forbid_73 (q_ix_n (by omega)) ?_
            refine g_iconst (v := 1) E dX8_forbid_74 (by decide) ?_
            exact g_zret E Z dX8_forbid_75 rfl ⟨_, rfl, Or.inl ⟨A, B, hAn, hBn, rfl, rfl, c_23, k45, rfl, by rw [q_upz hBA]⟩⟩
          · have k45 : q_bit (f 23 A) (nI B) = u := Eq.trans c_45 ku.symm
            refine g_iconst (v := 0) E dX8_forbid_48 (by decide) ?_
            exact g_zret E Z dX8_forbid_49 rfl ⟨_, rfl, Or.inr ⟨by first | omega | (rintro ⟨_, _, q, _⟩; exact q c_23) | (rintro ⟨_, _, _, q⟩; rw [kA] at q; exact q k45), rfl, rfl⟩⟩
        · have ku : u = 1 := hu.resolve_left c_37
          refine g_iconst (v := 1) E dX8_forbid_40 (by decide) ?_
          refine g_goto (tgt := 45) E dX8_forbid_41 (by decide) ?_
          refine g_icmp_ne (tgt := 50) E dX8_forbid_45 (by decide) (fun c_45 => ?_) (fun c_45 => ?_)
          · have k45 : ¬ q_bit (f 23 A) (nI B) = u := fun q => c_45 (q.trans ku)
            have hBA : B ≠ A := fun e => c_23 (by rw [e])
            refine g_aload_0 E dX8_forbid_50 ?_
            refine g_getR E (by first | rfl | assumption) (by first | rfl | assumption) fl_X8_63 rfl (by first | rfl | assumption) dX8_forbid_51 ?_
            refine g_iload_1 E dX8_forbid_54 ?_
            first | refine g_dupl E dX8_forbid_55 ?_ | refine g_dup2 E dX8_forbid_55 ?_
            refine g_iald E (by first | rfl | assumption) (by first | rfl | assumption) dX8_forbid_56 (q_ix_n (by omega)) ?_
            refine g_iconst (v := 1) E dX8_forbid_57 (by decide) ?_
            refine g_iload_2 E dX8_forbid_58 ?_
            refine g_ishl E dX8_forbid_59 ?_
            refine g_ixor E dX8_forbid_60 ?_
            refine g_iast E (by first | rfl | assumption) (by first | rfl | assumption) dX8_forbid_61 (q_ix_n (by omega)) ?_
            refine g_aload_0 E dX8_forbid_62 ?_
            refine g_getR E (by first | rfl | assumption) (by first | rfl | assumption) fl_X8_63 rfl (by first | rfl | assumption) dX8_forbid_63 ?_
            refine g_iload_2 E dX8_forbid_66 ?_
            first | refine g_dupl E dX8_forbid_67 ?_ | refine g_dup2 E dX8_forbid_67 ?_
            refine g_iald E (by first | rfl | assumption) (by first | rfl | assumption) dX8_forbid_68 (q_ix_n (by omega)) ?_
            refine g_iconst (v := 1) E dX8_forbid_69 (by decide) ?_
            refine g_iload_1 E dX8_forbid_70 ?_
            refine g_ishl E dX8_forbid_71 ?_
            refine g_ixor E dX8_forbid_72 ?_
            refine g_iast E (by first | rfl | assumption) (by first | rfl | assumption) dX8_forbid_73 (q_ix_n (by omega)) ?_
            refine g_iconst (v := 1) E dX8_forbid_74 (by decide) ?_
            exact g_zret E Z dX8_forbid_75 rfl ⟨_, rfl, Or.inl ⟨A, B, hAn, hBn, rfl, rfl, c_23, k45, rfl, by rw [q_upz hBA]⟩⟩
          · have k45 : q_bit (f 23 A) (nI B) = u := Eq.trans c_45 ku.symm
            refine g_iconst (v := 0) E dX8_forbid_48 (by decide) ?_
            exact g_zret E Z dX8_forbid_49 rfl ⟨_, rfl, Or.inr ⟨by first | omega | (rintro ⟨_, _, q, _⟩; exact q c_23) | (rintro ⟨_, _, _, q⟩; rw [kA] at q; exact q k45), rfl, rfl⟩⟩
def q_min12 (z : Nat) : Nat := if z < 12 then z else 12
set_option maxHeartbeats 4000000 in
set_option maxRecDepth 100000 in
theorem c_X8_frameOf {f : Nat → Nat → Int32} {g : Nat → Nat → Int64} (ht : f 0 0 = 0) (n : Nat) (hn : f 0 5 = nI n) (h10 : n ≤ 10) (hsz : ∀ S, S ≤ 3 → ∃ z : Nat, z ≤ 60 ∧ f 2 S = nI z) (s : Int32) : q_ConI yX8_frameOf cX8_frameOf 4 (some .int) 2 47 tyM alM [.ref 0, .int s] (f, g, rfM) (fun v h' => (¬ (0 ≤ s.toInt ∧ s.toInt ≤ 3) ∧ v = -2 ∧ h' = (f, g, rfM)) ∨ (∃ S z : Nat, S ≤ 3 ∧ s = nI S ∧ z ≤ 60 ∧ f 2 S = nI z ∧ ((f 1 S < 0 ∧ v = -5 ∧ h' = (f, g, rfM)) ∨ (¬ f 1 S < 0 ∧ z = 0 ∧ v = -8 ∧ h' = (f, g, rfM)) ∨ (¬ f 1 S < 0 ∧ 0 < z ∧ ¬ (∀ k, k < q_min12 z → 0 ≤ (q_nbM g S k).toInt ∧ (q_nbM g S k).toInt < 2 ^ n) ∧ v = -4 ∧ h' = (f, g, rfM)) ∨ (¬ f 1 S < 0 ∧ 0 < z ∧ (∀ k, k < q_min12 z → 0 ≤ (q_nbM g S k).toInt ∧ (q_nbM g S k).toInt < 2 ^ n) ∧ v = nI (q_min12 z) ∧ h' = (q_up (q_fill f 29 0 (q_min12 z) (fun k => (q_nbM g S k).toInt32)) 0 13 (nI (q_min12 z)), g, rfM))))) := by
  refine q_Con.of RX8 [some (.ref 0), some (.int s), none, none] (by decide +kernel) rfl rfl (Nat.le_of_ble_eq_true rfl) (fun C ad E Z => ?_)
  have L : ∀ S z : Nat, S ≤ 3 → s = nI S → z ≤ 60 → f 2 S = nI z → ¬ f 1 S < 0 → 0 < z → ∀ m, m = q_min12 z → gg C tyM 4 0 0 alM ad 53 [some (.ref 0), some (.int s), some (.int (nI m)), some (.int 0)] [] (f, g, rfM) := by
    intro S z hS es hz ez u1 u2 m em
    have hm : m ≤ 12 := by rw [em]; unfold q_min12; split <;> omega
    subst es
    have L2 : (∀ k, k < q_min12 z → 0 ≤ (q_nbM g S k).toInt ∧ (q_nbM g S k).toInt < 2 ^ n) → ∀ i, i ≤ m → gg C tyM 4 0 0 alM ad 87 [some (.ref 0), some (.int (nI S)), some (.int (nI m)), some (.int (nI i))] [] (q_fill f 29 0 i (fun k => (q_nbM g S k).toInt32), g, rfM) := by
      intro hall
      refine q_loop m (fun i hi ih => ?_)
      refine g_iload_3 E dX8_frameOf_87 ?_
      refine g_iload_2 E dX8_frameOf_88 ?_
      refine g_icmp_ge (tgt := 116) E dX8_frameOf_89 (by decide) (fun c_89 => ?_) (fun c_89 => ?_)
      · have e_89 := (q_ge (x := m) (y := i) rfl rfl (by omega) (by omega)).mp c_89
        refine g_aload_0 E dX8_frameOf_116 ?_
        refine g_iload_2 E dX8_frameOf_117 ?_
        refine g_putI E (by first | rfl | assumption) (by first | rfl | assumption) fw_X8_199 rfl dX8_frameOf_118 ?_
        refine g_iload_2 E dX8_frameOf_121 ?_
        exact g_iret E Z dX8_frameOf_122 ⟨_, rfl, Or.inr ⟨S, z, hS, rfl, hz, ez, Or.inr (Or.inr (Or.inr ⟨u1, u2, hall, by rw [em], by rw [show i = m by omega, em]⟩))⟩⟩
      · have e_89 := (not_congr (q_ge (x := m) (y := i) rfl rfl (by omega) (by omega))).mp c_89
        refine g_aload_0 E dX8_frameOf_92 ?_
        refine g_getR E (by first | rfl | assumption) (by first | rfl | assumption) fl_X8_82 rfl (by first | rfl | assumption) dX8_frameOf_93 ?_
        refine g_iload_3 E dX8_frameOf_96 ?_
        refine g_aload_0 E dX8_frameOf_97 ?_
        refine g_getR E (by first | rfl | assumption) (by first | rfl | assumption) fl_X8_16 rfl (by first | rfl | assumption) dX8_frameOf_98 ?_
        refine g_bipush (v := 60) E dX8_frameOf_101 (by decide) ?_
        refine g_iload_1 E dX8_frameOf_103 ?_
        refine g_imul E dX8_frameOf_104 ?_
        refine g_iload_3 E dX8_frameOf_105 ?_
        refine g_iadd E dX8_frameOf_106 ?_
        refine g_lald E (by first | rfl | assumption) (by first | rfl | assumption) dX8_frameOf_107 (q_ix_e (q_60 _ _) (by omega)) ?_
        refine g_l2i E dX8_frameOf_108 ?_
        refine g_iast E (by first | rfl | assumption) (by first | rfl | assumption) dX8_frameOf_109 (q_ix_n (by omega)) ?_
        refine g_iinc_3 (u := 1) E dX8_frameOf_110 (by decide) (by decide) rfl ?_
        refine g_goto (tgt := 87) E dX8_frameOf_113 (by decide) ?_
        have e := q_fill_s (f := f) (a := 29) (lo := 0) (n := i) (v := fun c => (q_nbM g S c).toInt32) rfl
        rw [Nat.zero_add] at e
        rw [nI_1]
        exact e ▸ ih (by omega)
    have L1 : ∀ i, i ≤ m → (∀ k, k < i → 0 ≤ (q_nbM g S k).toInt ∧ (q_nbM g S k).toInt < 2 ^ n) → gg C tyM 4 0 0 alM ad 53 [some (.ref 0), some (.int (nI S)), some (.int (nI m)), some (.int (nI i))] [] (f, g, rfM) := by
      refine q_loop m (fun i hi ih hall => ?_)
      refine g_iload_3 E dX8_frameOf_53 ?_
      refine g_iload_2 E dX8_frameOf_54 ?_
      refine g_icmp_ge (tgt := 85) E dX8_frameOf_55 (by decide) (fun c_55 => ?_) (fun c_55 => ?_)
      · have e_55 := (q_ge (x := m) (y := i) rfl rfl (by omega) (by omega)).mp c_55
        refine g_iconst (v := 0) E dX8_frameOf_85 (by decide) ?_
        refine g_istore_3 E dX8_frameOf_86 (by decide) rfl ?_
        have e := L2 (fun k hk => hall k (by omega)) 0 (Nat.zero_le _)
        rw [q_fill_0] at e
        exact e
      · have e_55 := (not_congr (q_ge (x := m) (y := i) rfl rfl (by omega) (by omega))).mp c_55
        refine g_aload_0 E dX8_frameOf_58 ?_
        refine g_aload_0 E dX8_frameOf_59 ?_
        refine g_getR E (by first | rfl | assumption) (by first | rfl | assumption) fl_X8_16 rfl (by first | rfl | assumption) dX8_frameOf_60 ?_
        refine g_bipush (v := 60) E dX8_frameOf_63 (by decide) ?_
        refine g_iload_1 E dX8_frameOf_65 ?_
        refine g_imul E dX8_frameOf_66 ?_
        refine g_iload_3 E dX8_frameOf_67 ?_
        refine g_iadd E dX8_frameOf_68 ?_
        refine g_lald E (by first | rfl | assumption) (by first | rfl | assumption) dX8_frameOf_69 (q_ix_e (q_60 _ _) (by omega)) ?_
        refine g_cVi1 E (c_X8_isSet n (by exact hn) h10 _) cw_X8_189 (by decide) (by decide) (by first | rfl | assumption) (by first | rfl | assumption) (Nat.le_of_ble_eq_true rfl) dX8_frameOf_70 (fun v_70 h_70 hp => ?_)
        obtain ⟨rfl, rfl⟩ := hp
        refine g_if_ne (tgt := 79) E dX8_frameOf_73 (by decide) (fun c_73 => ?_) (fun c_73 => ?_)
        · have k_73 := q_b1.mp c_73
          refine g_iinc_3 (u := 1) E dX8_frameOf_79 (by decide) (by decide) rfl ?_
          refine g_goto (tgt := 53) E dX8_frameOf_82 (by decide) ?_
          rw [nI_1]
          exact ih (by omega) (fun c hc => by
            by_cases e : c = i
            · subst e; exact k_73
            · exact hall c (by omega))
        · have k_73 := q_b0.mp c_73
          refine g_bipush (v := -4) E dX8_frameOf_76 (by decide) ?_
          exact g_iret E Z dX8_frameOf_78 ⟨_, rfl, Or.inr ⟨S, z, hS, rfl, hz, ez, Or.inr (Or.inr (Or.inl ⟨u1, u2, fun q => k_73 (q i (by omega)), rfl, rfl⟩))⟩⟩
    exact L1 0 (Nat.zero_le _) (fun c hc => absurd hc (Nat.not_lt_zero c))
  refine g_aload_0 E dX8_frameOf_0 ?_
  refine g_iconst (v := 0) E dX8_frameOf_1 (by decide) ?_
  refine g_putI E (by first | rfl | assumption) (by first | rfl | assumption) fw_X8_137 rfl dX8_frameOf_2 ?_
  rw [q_up_same ht]
  refine g_iload_1 E dX8_frameOf_5 ?_
  refine g_cSi1 E (c_X8_isPlace _) cw_X8_146 (by decide) (by decide) (Nat.le_of_ble_eq_true rfl) dX8_frameOf_6 (fun v_6 h_6 hp => ?_)
  obtain ⟨rfl, rfl⟩ := hp
  refine g_if_ne (tgt := 15) E dX8_frameOf_9 (by decide) (fun c_9 => ?_) (fun c_9 => ?_)
  · have k_9 := q_b1.mp c_9
    obtain ⟨S, hS, rfl⟩ := q_nat (b := 3) k_9.1 k_9.2
    obtain ⟨z, hz, ez⟩ := hsz S hS
    refine g_aload_0 E dX8_frameOf_15 ?_
    refine g_getR E (by first | rfl | assumption) (by first | rfl | assumption) fl_X8_9 rfl (by first | rfl | assumption) dX8_frameOf_16 ?_
    refine g_iload_1 E dX8_frameOf_19 ?_
    refine g_iald E (by first | rfl | assumption) (by first | rfl | assumption) dX8_frameOf_20 (q_ix_n (by omega)) ?_
    refine g_if_ge (tgt := 27) E dX8_frameOf_21 (by decide) (fun c_21 => ?_) (fun c_21 => ?_)
    · refine g_aload_0 E dX8_frameOf_27 ?_
      refine g_getR E (by first | rfl | assumption) (by first | rfl | assumption) fl_X8_13 rfl (by first | rfl | assumption) dX8_frameOf_28 ?_
      refine g_iload_1 E dX8_frameOf_31 ?_
      refine g_iald E (by first | rfl | assumption) (by first | rfl | assumption) dX8_frameOf_32 (q_ix_n (by omega)) ?_
      refine g_if_ne (tgt := 39) E dX8_frameOf_33 (by decide) (fun c_33 => ?_) (fun c_33 => ?_)
      · have k33 : 0 < z := by
          rcases Nat.eq_zero_or_pos z with q | q
          · exact absurd (by rw [ez, q]; rfl) c_33
          · exact q
        refine g_bipush (v := 12) E dX8_frameOf_39 (by decide) ?_
        refine g_aload_0 E dX8_frameOf_41 ?_
        refine g_getR E (by first | rfl | assumption) (by first | rfl | assumption) fl_X8_13 rfl (by first | rfl | assumption) dX8_frameOf_42 ?_
        refine g_iload_1 E dX8_frameOf_45 ?_
        refine g_iald E (by first | rfl | assumption) (by first | rfl | assumption) dX8_frameOf_46 (q_ix_n (by omega)) ?_
        refine g_cSi2 E (c_J9_min_7cf53 _ _) cw_X8_221 (by decide) (by decide) (Nat.le_of_ble_eq_true rfl) dX8_frameOf_47 (fun v_47 h_47 hp => ?_)
        obtain ⟨rfl, rfl⟩ := hp
        rw [show (if f 2 S < 12 then f 2 S else 12) = nI (q_min12 z) from by
          rw [ez]; unfold q_min12
          by_cases q : z < 12
          · rw [if_pos q, if_pos (show nI z < 12 from nI_lt (a := z) (b := 12) q (by omega))]
          · rw [if_neg q, if_neg (show ¬ nI z < 12 from nI_nlt (a := z) (b := 12) (by omega) (by omega))]; rfl]
        refine g_istore_2 E dX8_frameOf_50 (by decide) rfl ?_
        refine g_iconst (v := 0) E dX8_frameOf_51 (by decide) ?_
        refine g_istore_3 E dX8_frameOf_52 (by decide) rfl ?_
        exact L S z hS rfl hz ez (Int32.not_lt.mpr c_21) k33 _ rfl
      · have k33 : z = 0 := (nI_eq (by omega) (by omega)).mp (ez.symm.trans c_33)
        refine g_bipush (v := -8) E dX8_frameOf_36 (by decide) ?_
        exact g_iret E Z dX8_frameOf_38 ⟨_, rfl, Or.inr ⟨S, z, hS, rfl, hz, ez, Or.inr (Or.inl ⟨Int32.not_lt.mpr c_21, k33, rfl, rfl⟩)⟩⟩
    · refine g_bipush (v := -5) E dX8_frameOf_24 (by decide) ?_
      exact g_iret E Z dX8_frameOf_26 ⟨_, rfl, Or.inr ⟨S, z, hS, rfl, hz, ez, Or.inl ⟨Int32.not_le.mp c_21, rfl, rfl⟩⟩⟩
  · have k_9 := q_b0.mp c_9
    refine g_bipush (v := -2) E dX8_frameOf_12 (by decide) ?_
    exact g_iret E Z dX8_frameOf_14 ⟨_, rfl, Or.inl ⟨k_9, rfl, rfl⟩⟩
