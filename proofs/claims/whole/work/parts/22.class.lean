/-! the class: its small methods -/
set_option maxHeartbeats 4000000 in
set_option maxRecDepth 100000 in
theorem c_X7_terms {n : Nat} {sB tB : Bool} {f : Nat → Nat → Int32} {g : Nat → Nat → Int64} (b l t d : Int32) : q_ConI yX7_terms cX7_terms 6 (some .int) 1 25 tyX (alX n sB tB) [.ref 0, .int b, .int l, .int t, .int d] (f, g, rfX n sB tB) (fun v h' => (((1 ≤ b.toInt ∧ b.toInt ≤ 4) ∧ (1 ≤ l.toInt ∧ l.toInt ≤ 1000) ∧ (1 ≤ t.toInt ∧ t.toInt ≤ 20) ∧ (0 ≤ d.toInt ∧ d.toInt ≤ 9)) ∧ v = 0 ∧ h' = (q_up (q_up (q_up (q_up f 1 4 b) 1 5 l) 1 6 t) 1 7 d, g, rfX n sB tB)) ∨ (¬ ((1 ≤ b.toInt ∧ b.toInt ≤ 4) ∧ (1 ≤ l.toInt ∧ l.toInt ≤ 1000) ∧ (1 ≤ t.toInt ∧ t.toInt ≤ 20) ∧ (0 ≤ d.toInt ∧ d.toInt ≤ 9)) ∧ v = -2 ∧ h' = (f, g, rfX n sB tB))) := by
  refine q_Con.of RX7 [some (.ref 0), some (.int b), some (.int l), some (.int t), some (.int d), none] (by decide +kernel) rfl rfl (Nat.le_of_ble_eq_true rfl) (fun C ad E Z => ?_)
  refine g_iload_1 E dX7_terms_0 ?_
  refine g_i2l E dX7_terms_1 ?_
  refine g_lconst (v := 1) E dX7_terms_2 (by decide) ?_
  refine g_ldc2 E kw_X7_45 dX7_terms_3 ?_
  refine g_cSi3 E (c_X7_isWithinI _ _ _ (1) (4) (by decide) (by decide)) cw_X7_47 (by decide) (by decide) (Nat.le_of_ble_eq_true rfl) dX7_terms_6 (fun v_6 h_6 hp => ?_)
  obtain ⟨rfl, rfl⟩ := hp
  refine g_if_eq (tgt := 53) E dX7_terms_9 (by decide) (fun c_9 => ?_) (fun c_9 => ?_)
  · have k_9 := q_b0.mp c_9
    refine g_iconst (v := 0) E dX7_terms_53 (by decide) ?_
    refine g_istore_5 E dX7_terms_54 (by decide) rfl ?_
    refine g_iload_5 E dX7_terms_56 ?_
    refine g_if_ne (tgt := 64) E dX7_terms_58 (by decide) (fun c_58 => ?_) (fun c_58 => ?_)
    · refine g_aload_0 E dX7_terms_64 ?_
      refine g_getR E (by first | assumption | rfl) (by first | assumption | rfl) fl_X7_12 rfl (by first | assumption | rfl) dX7_terms_65 ?_
      refine g_iload_1 E dX7_terms_68 ?_
      refine g_putI E (by first | assumption | rfl) (by first | assumption | rfl) fw_X7_57 rfl dX7_terms_69 ?_
      refine g_aload_0 E dX7_terms_72 ?_
      refine g_getR E (by first | assumption | rfl) (by first | assumption | rfl) fl_X7_12 rfl (by first | assumption | rfl) dX7_terms_73 ?_
      refine g_iload_2 E dX7_terms_76 ?_
      refine g_putI E (by first | assumption | rfl) (by first | assumption | rfl) fw_X7_60 rfl dX7_terms_77 ?_
      refine g_aload_0 E dX7_terms_80 ?_
      refine g_getR E (by first | assumption | rfl) (by first | assumption | rfl) fl_X7_12 rfl (by first | assumption | rfl) dX7_terms_81 ?_
      refine g_iload_3 E dX7_terms_84 ?_
      refine g_putI E (by first | assumption | rfl) (by first | assumption | rfl) fw_X7_63 rfl dX7_terms_85 ?_
      refine g_aload_0 E dX7_terms_88 ?_
      refine g_getR E (by first | assumption | rfl) (by first | assumption | rfl) fl_X7_12 rfl (by first | assumption | rfl) dX7_terms_89 ?_
      refine g_iload_4 E dX7_terms_92 ?_
      refine g_putI E (by first | assumption | rfl) (by first | assumption | rfl) fw_X7_66 rfl dX7_terms_94 ?_
      refine g_iconst (v := 0) E dX7_terms_97 (by decide) ?_
      exact g_iret E Z dX7_terms_98 ⟨_, rfl, Or.inl ⟨by first | omega | exact absurd rfl c_58 | exact absurd c_58 (by decide), rfl, rfl⟩⟩
    · refine g_bipush (v := -2) E dX7_terms_61 (by decide) ?_
      exact g_iret E Z dX7_terms_63 ⟨_, rfl, Or.inr ⟨by first | omega | exact absurd rfl c_58 | exact absurd c_58 (by decide), rfl, rfl⟩⟩
  · have k_9 := q_b1.mp c_9
    refine g_iload_2 E dX7_terms_12 ?_
    refine g_i2l E dX7_terms_13 ?_
    refine g_lconst (v := 1) E dX7_terms_14 (by decide) ?_
    refine g_ldc2 E kw_X7_51 dX7_terms_15 ?_
    refine g_cSi3 E (c_X7_isWithinI _ _ _ (1) (1000) (by decide) (by decide)) cw_X7_47 (by decide) (by decide) (Nat.le_of_ble_eq_true rfl) dX7_terms_18 (fun v_18 h_18 hp => ?_)
    obtain ⟨rfl, rfl⟩ := hp
    refine g_if_eq (tgt := 53) E dX7_terms_21 (by decide) (fun c_21 => ?_) (fun c_21 => ?_)
    · have k_21 := q_b0.mp c_21
      refine g_iconst (v := 0) E dX7_terms_53 (by decide) ?_
      refine g_istore_5 E dX7_terms_54 (by decide) rfl ?_
      refine g_iload_5 E dX7_terms_56 ?_
      refine g_if_ne (tgt := 64) E dX7_terms_58 (by decide) (fun c_58 => ?_) (fun c_58 => ?_)
      · refine g_aload_0 E dX7_terms_64 ?_
        refine g_getR E (by first | assumption | rfl) (by first | assumption | rfl) fl_X7_12 rfl (by first | assumption | rfl) dX7_terms_65 ?_
        refine g_iload_1 E dX7_terms_68 ?_
        refine g_putI E (by first | assumption | rfl) (by first | assumption | rfl) fw_X7_57 rfl dX7_terms_69 ?_
        refine g_aload_0 E dX7_terms_72 ?_
        refine g_getR E (by first | assumption | rfl) (by first | assumption | rfl) fl_X7_12 rfl (by first | assumption | rfl) dX7_terms_73 ?_
        refine g_iload_2 E dX7_terms_76 ?_
        refine g_putI E (by first | assumption | rfl) (by first | assumption | rfl) fw_X7_60 rfl dX7_terms_77 ?_
        refine g_aload_0 E dX7_terms_80 ?_
        refine g_getR E (by first | assumption | rfl) (by first | assumption | rfl) fl_X7_12 rfl (by first | assumption | rfl) dX7_terms_81 ?_
        refine g_iload_3 E dX7_terms_84 ?_
        refine g_putI E (by first | assumption | rfl) (by first | assumption | rfl) fw_X7_63 rfl dX7_terms_85 ?_
        refine g_aload_0 E dX7_terms_88 ?_
        refine g_getR E (by first | assumption | rfl) (by first | assumption | rfl) fl_X7_12 rfl (by first | assumption | rfl) dX7_terms_89 ?_
        refine g_iload_4 E dX7_terms_92 ?_
        refine g_putI E (by first | assumption | rfl) (by first | assumption | rfl) fw_X7_66 rfl dX7_terms_94 ?_
        refine g_iconst (v := 0) E dX7_terms_97 (by decide) ?_
        exact g_iret E Z dX7_terms_98 ⟨_, rfl, Or.inl ⟨by first | omega | exact absurd rfl c_58 | exact absurd c_58 (by decide), rfl, rfl⟩⟩
      · refine g_bipush (v := -2) E dX7_terms_61 (by decide) ?_
        exact g_iret E Z dX7_terms_63 ⟨_, rfl, Or.inr ⟨by first | omega | exact absurd rfl c_58 | exact absurd c_58 (by decide), rfl, rfl⟩⟩
    · have k_21 := q_b1.mp c_21
      refine g_iload_3 E dX7_terms_24 ?_
      refine g_i2l E dX7_terms_25 ?_
      refine g_lconst (v := 1) E dX7_terms_26 (by decide) ?_
      refine g_ldc2 E kw_X7_53 dX7_terms_27 ?_
      refine g_cSi3 E (c_X7_isWithinI _ _ _ (1) (20) (by decide) (by decide)) cw_X7_47 (by decide) (by decide) (Nat.le_of_ble_eq_true rfl) dX7_terms_30 (fun v_30 h_30 hp => ?_)
      obtain ⟨rfl, rfl⟩ := hp
      refine g_if_eq (tgt := 53) E dX7_terms_33 (by decide) (fun c_33 => ?_) (fun c_33 => ?_)
      · have k_33 := q_b0.mp c_33
        refine g_iconst (v := 0) E dX7_terms_53 (by decide) ?_
        refine g_istore_5 E dX7_terms_54 (by decide) rfl ?_
        refine g_iload_5 E dX7_terms_56 ?_
        refine g_if_ne (tgt := 64) E dX7_terms_58 (by decide) (fun c_58 => ?_) (fun c_58 => ?_)
        · refine g_aload_0 E dX7_terms_64 ?_
          refine g_getR E (by first | assumption | rfl) (by first | assumption | rfl) fl_X7_12 rfl (by first | assumption | rfl) dX7_terms_65 ?_
          refine g_iload_1 E dX7_terms_68 ?_
          refine g_putI E (by first | assumption | rfl) (by first | assumption | rfl) fw_X7_57 rfl dX7_terms_69 ?_
          refine g_aload_0 E dX7_terms_72 ?_
          refine g_getR E (by first | assumption | rfl) (by first | assumption | rfl) fl_X7_12 rfl (by first | assumption | rfl) dX7_terms_73 ?_
          refine g_iload_2 E dX7_terms_76 ?_
          refine g_putI E (by first | assumption | rfl) (by first | assumption | rfl) fw_X7_60 rfl dX7_terms_77 ?_
          refine g_aload_0 E dX7_terms_80 ?_
          refine g_getR E (by first | assumption | rfl) (by first | assumption | rfl) fl_X7_12 rfl (by first | assumption | rfl) dX7_terms_81 ?_
          refine g_iload_3 E dX7_terms_84 ?_
          refine g_putI E (by first | assumption | rfl) (by first | assumption | rfl) fw_X7_63 rfl dX7_terms_85 ?_
          refine g_aload_0 E dX7_terms_88 ?_
          refine g_getR E (by first | assumption | rfl) (by first | assumption | rfl) fl_X7_12 rfl (by first | assumption | rfl) dX7_terms_89 ?_
          refine g_iload_4 E dX7_terms_92 ?_
          refine g_putI E (by first | assumption | rfl) (by first | assumption | rfl) fw_X7_66 rfl dX7_terms_94 ?_
          refine g_iconst (v := 0) E dX7_terms_97 (by decide) ?_
          exact g_iret E Z dX7_terms_98 ⟨_, rfl, Or.inl ⟨by first | omega | exact absurd rfl c_58 | exact absurd c_58 (by decide), rfl, rfl⟩⟩
        · refine g_bipush (v := -2) E dX7_terms_61 (by decide) ?_
          exact g_iret E Z dX7_terms_63 ⟨_, rfl, Or.inr ⟨by first | omega | exact absurd rfl c_58 | exact absurd c_58 (by decide), rfl, rfl⟩⟩
      · have k_33 := q_b1.mp c_33
        refine g_iload_4 E dX7_terms_36 ?_
        refine g_i2l E dX7_terms_38 ?_
        refine g_lconst (v := 0) E dX7_terms_39 (by decide) ?_
        refine g_ldc2 E kw_X7_55 dX7_terms_40 ?_
        refine g_cSi3 E (c_X7_isWithinI _ _ _ (0) (9) (by decide) (by decide)) cw_X7_47 (by decide) (by decide) (Nat.le_of_ble_eq_true rfl) dX7_terms_43 (fun v_43 h_43 hp => ?_)
        obtain ⟨rfl, rfl⟩ := hp
        refine g_if_eq (tgt := 53) E dX7_terms_46 (by decide) (fun c_46 => ?_) (fun c_46 => ?_)
        · have k_46 := q_b0.mp c_46
          refine g_iconst (v := 0) E dX7_terms_53 (by decide) ?_
          refine g_istore_5 E dX7_terms_54 (by decide) rfl ?_
          refine g_iload_5 E dX7_terms_56 ?_
          refine g_if_ne (tgt := 64) E dX7_terms_58 (by decide) (fun c_58 => ?_) (fun c_58 => ?_)
          · refine g_aload_0 E dX7_terms_64 ?_
            refine g_getR E (by first | assumption | rfl) (by first | assumption | rfl) fl_X7_12 rfl (by first | assumption | rfl) dX7_terms_65 ?_
            refine g_iload_1 E dX7_terms_68 ?_
            refine g_putI E (by first | assumption | rfl) (by first | assumption | rfl) fw_X7_57 rfl dX7_terms_69 ?_
            refine g_aload_0 E dX7_terms_72 ?_
            refine g_getR E (by first | assumption | rfl) (by first | assumption | rfl) fl_X7_12 rfl (by first | assumption | rfl) dX7_terms_73 ?_
            refine g_iload_2 E dX7_terms_76 ?_
            refine g_putI E (by first | assumption | rfl) (by first | assumption | rfl) fw_X7_60 rfl dX7_terms_77 ?_
            refine g_aload_0 E dX7_terms_80 ?_
            refine g_getR E (by first | assumption | rfl) (by first | assumption | rfl) fl_X7_12 rfl (by first | assumption | rfl) dX7_terms_81 ?_
            refine g_iload_3 E dX7_terms_84 ?_
            refine g_putI E (by first | assumption | rfl) (by first | assumption | rfl) fw_X7_63 rfl dX7_terms_85 ?_
            refine g_aload_0 E dX7_terms_88 ?_
            refine g_getR E (by first | assumption | rfl) (by first | assumption | rfl) fl_X7_12 rfl (by first | assumption | rfl) dX7_terms_89 ?_
            refine g_iload_4 E dX7_terms_92 ?_
            refine g_putI E (by first | assumption | rfl) (by first | assumption | rfl) fw_X7_66 rfl dX7_terms_94 ?_
            refine g_iconst (v := 0) E dX7_terms_97 (by decide) ?_
            exact g_iret E Z dX7_terms_98 ⟨_, rfl, Or.inl ⟨by first | omega | exact absurd rfl c_58 | exact absurd c_58 (by decide), rfl, rfl⟩⟩
          · refine g_bipush (v := -2) E dX7_terms_61 (by decide) ?_
            exact g_iret E Z dX7_terms_63 ⟨_, rfl, Or.inr ⟨by first | omega | exact absurd rfl c_58 | exact absurd c_58 (by decide), rfl, rfl⟩⟩
        · have k_46 := q_b1.mp c_46
          refine g_iconst (v := 1) E dX7_terms_49 (by decide) ?_
          refine g_goto (tgt := 54) E dX7_terms_50 (by decide) ?_
          refine g_istore_5 E dX7_terms_54 (by decide) rfl ?_
          refine g_iload_5 E dX7_terms_56 ?_
          refine g_if_ne (tgt := 64) E dX7_terms_58 (by decide) (fun c_58 => ?_) (fun c_58 => ?_)
          · refine g_aload_0 E dX7_terms_64 ?_
            refine g_getR E (by first | assumption | rfl) (by first | assumption | rfl) fl_X7_12 rfl (by first | assumption | rfl) dX7_terms_65 ?_
            refine g_iload_1 E dX7_terms_68 ?_
            refine g_putI E (by first | assumption | rfl) (by first | assumption | rfl) fw_X7_57 rfl dX7_terms_69 ?_
            refine g_aload_0 E dX7_terms_72 ?_
            refine g_getR E (by first | assumption | rfl) (by first | assumption | rfl) fl_X7_12 rfl (by first | assumption | rfl) dX7_terms_73 ?_
            refine g_iload_2 E dX7_terms_76 ?_
            refine g_putI E (by first | assumption | rfl) (by first | assumption | rfl) fw_X7_60 rfl dX7_terms_77 ?_
            refine g_aload_0 E dX7_terms_80 ?_
            refine g_getR E (by first | assumption | rfl) (by first | assumption | rfl) fl_X7_12 rfl (by first | assumption | rfl) dX7_terms_81 ?_
            refine g_iload_3 E dX7_terms_84 ?_
            refine g_putI E (by first | assumption | rfl) (by first | assumption | rfl) fw_X7_63 rfl dX7_terms_85 ?_
            refine g_aload_0 E dX7_terms_88 ?_
            refine g_getR E (by first | assumption | rfl) (by first | assumption | rfl) fl_X7_12 rfl (by first | assumption | rfl) dX7_terms_89 ?_
            refine g_iload_4 E dX7_terms_92 ?_
            refine g_putI E (by first | assumption | rfl) (by first | assumption | rfl) fw_X7_66 rfl dX7_terms_94 ?_
            refine g_iconst (v := 0) E dX7_terms_97 (by decide) ?_
            exact g_iret E Z dX7_terms_98 ⟨_, rfl, Or.inl ⟨by first | omega | exact absurd rfl c_58 | exact absurd c_58 (by decide), rfl, rfl⟩⟩
          · refine g_bipush (v := -2) E dX7_terms_61 (by decide) ?_
            exact g_iret E Z dX7_terms_63 ⟨_, rfl, Or.inr ⟨by first | omega | exact absurd rfl c_58 | exact absurd c_58 (by decide), rfl, rfl⟩⟩
set_option maxHeartbeats 4000000 in
set_option maxRecDepth 100000 in
theorem c_X7_rain {n : Nat} {sB tB : Bool} {f : Nat → Nat → Int32} {g : Nat → Nat → Int64} (hn : f 1 1 = nI n) (h10 : n ≤ 10) (c x : Int32) : q_ConI yX7_rain cX7_rain 4 (some .int) 1 25 tyX (alX n sB tB) [.ref 0, .int c, .int x] (f, g, rfX n sB tB) (fun v h' => (∃ j : Nat, j < n ∧ c = nI j ∧ (0 ≤ x.toInt ∧ x.toInt ≤ 2) ∧ v = f (j + 40) 4 ∧ h' = (q_up f (j + 40) 4 x, g, rfX n sB tB)) ∨ (¬ ((0 ≤ c.toInt ∧ c.toInt < n) ∧ (0 ≤ x.toInt ∧ x.toInt ≤ 2)) ∧ v = -2 ∧ h' = (f, g, rfX n sB tB))) := by
  refine q_Con.of RX7 [some (.ref 0), some (.int c), some (.int x), none] (by decide +kernel) rfl rfl (Nat.le_of_ble_eq_true rfl) (fun C ad E Z => ?_)
  refine g_aload_0 E dX7_rain_0 ?_
  refine g_getR E (by first | assumption | rfl) (by first | assumption | rfl) fl_X7_12 rfl (by first | assumption | rfl) dX7_rain_1 ?_
  refine g_iload_1 E dX7_rain_4 ?_
  refine g_cVi1 E (c_X2_hasCell n (by exact hn) (by omega) _) cw_X7_87 (by decide) (by decide) (by first | assumption | rfl) (by first | assumption | rfl) (Nat.le_of_ble_eq_true rfl) dX7_rain_5 (fun v_5 h_5 hp => ?_)
  obtain ⟨rfl, rfl⟩ := hp
  refine g_if_eq (tgt := 23) E dX7_rain_8 (by decide) (fun c_8 => ?_) (fun c_8 => ?_)
  · have k_8 := q_b0.mp c_8
    refine g_bipush (v := -2) E dX7_rain_23 (by decide) ?_
    exact g_iret E Z dX7_rain_25 ⟨_, rfl, Or.inr ⟨by omega, rfl, rfl⟩⟩
  · have k_8 := q_b1.mp c_8
    refine g_iload_2 E dX7_rain_11 ?_
    refine g_i2l E dX7_rain_12 ?_
    refine g_lconst (v := 0) E dX7_rain_13 (by decide) ?_
    refine g_ldc2 E kw_X7_97 dX7_rain_14 ?_
    refine g_cSi3 E (c_X7_isWithinI _ _ _ (0) (2) (by decide) (by decide)) cw_X7_47 (by decide) (by decide) (Nat.le_of_ble_eq_true rfl) dX7_rain_17 (fun v_17 h_17 hp => ?_)
    obtain ⟨rfl, rfl⟩ := hp
    refine g_if_ne (tgt := 26) E dX7_rain_20 (by decide) (fun c_20 => ?_) (fun c_20 => ?_)
    · have k_20 := q_b1.mp c_20
      obtain ⟨j, hj, rfl⟩ := q_nat (b := n - 1) k_8.1 (by omega)
      have hjn : j < n := by have := k_8.2; rw [nI_toInt (by omega)] at this; omega
      have kj : (nI j).toNatClampNeg = j := nI_clamp (by omega)
      have hac_j : alX n sB tB (j + 40) = true := alX_c (by omega)
      have htc_j : tyX (j + 40) = .inr 0 := tyX_c (by omega)
      have hrc_j : rfX n sB tB 8 j = some (j + 40) := rfX_c (by omega)
      refine g_aload_0 E dX7_rain_26 ?_
      refine g_getR E (by first | assumption | rfl) (by first | assumption | rfl) fl_X7_12 rfl (by first | assumption | rfl) dX7_rain_27 ?_
      refine g_getR E (by first | assumption | rfl) (by first | assumption | rfl) fl_X7_78 rfl (by first | assumption | rfl) dX7_rain_30 ?_
      refine g_iload_1 E dX7_rain_33 ?_
      first | refine g_aald E (by first | assumption | rfl) (by first | assumption | rfl) dX7_rain_34 (q_ix_n (by omega)) (by first | assumption | rfl) ?_ | refine g_aaldJ E (by first | assumption | rfl) (by first | assumption | rfl) dX7_rain_34 (q_ix_n (by omega)) (by first | assumption | rfl) ?_
      refine g_getI E (by first | assumption | rfl) (by first | assumption | rfl) fl_X7_99 rfl dX7_rain_35 ?_
      refine g_istore_3 E dX7_rain_38 (by decide) rfl ?_
      refine g_aload_0 E dX7_rain_39 ?_
      refine g_getR E (by first | assumption | rfl) (by first | assumption | rfl) fl_X7_12 rfl (by first | assumption | rfl) dX7_rain_40 ?_
      refine g_getR E (by first | assumption | rfl) (by first | assumption | rfl) fl_X7_78 rfl (by first | assumption | rfl) dX7_rain_43 ?_
      refine g_iload_1 E dX7_rain_46 ?_
      first | refine g_aald E (by first | assumption | rfl) (by first | assumption | rfl) dX7_rain_47 (q_ix_n (by omega)) (by first | assumption | rfl) ?_ | refine g_aaldJ E (by first | assumption | rfl) (by first | assumption | rfl) dX7_rain_47 (q_ix_n (by omega)) (by first | assumption | rfl) ?_
      refine g_iload_2 E dX7_rain_48 ?_
      refine g_putI E (by first | assumption | rfl) (by first | assumption | rfl) fw_X7_99 rfl dX7_rain_49 ?_
      refine g_iload_3 E dX7_rain_52 ?_
      exact g_iret E Z dX7_rain_53 ⟨_, rfl, Or.inl ⟨j, hjn, rfl, k_20, rfl, rfl⟩⟩
    · have k_20 := q_b0.mp c_20
      refine g_bipush (v := -2) E dX7_rain_23 (by decide) ?_
      exact g_iret E Z dX7_rain_25 ⟨_, rfl, Or.inr ⟨by omega, rfl, rfl⟩⟩
set_option maxHeartbeats 4000000 in
set_option maxRecDepth 100000 in
theorem c_X7_gateway {n : Nat} {sB tB : Bool} {f : Nat → Nat → Int32} {g : Nat → Nat → Int64} (c x u : Int32) (hu : u = 0 ∨ u = 1) : q_ConI yX7_gateway cX7_gateway 4 (some .int) 2 45 tyX (alX n sB tB) [.ref 0, .int c, .int x, .int u] (f, g, rfX n sB tB) (fun v h' => (∃ j : Nat, j < 3 ∧ c = nI j ∧ (0 ≤ x.toInt ∧ x.toInt ≤ 10) ∧ v = 0 ∧ h' = (q_up (q_up f 9 j x) 10 j u, g, rfX n sB tB)) ∨ (¬ ((0 ≤ c.toInt ∧ c.toInt ≤ 2) ∧ (0 ≤ x.toInt ∧ x.toInt ≤ 10)) ∧ v = -2 ∧ h' = (f, g, rfX n sB tB))) := by
  refine q_Con.of RX7 [some (.ref 0), some (.int c), some (.int x), some (.int u)] (by decide +kernel) rfl rfl (Nat.le_of_ble_eq_true rfl) (fun C ad E Z => ?_)
  refine g_iload_1 E dX7_gateway_0 ?_
  refine g_cSi1 E (c_X7_isGateway _) cw_X7_71 (by decide) (by decide) (Nat.le_of_ble_eq_true rfl) dX7_gateway_1 (fun v_1 h_1 hp => ?_)
  obtain ⟨rfl, rfl⟩ := hp
  refine g_if_eq (tgt := 19) E dX7_gateway_4 (by decide) (fun c_4 => ?_) (fun c_4 => ?_)
  · have k_4 := q_b0.mp c_4
    refine g_bipush (v := -2) E dX7_gateway_19 (by decide) ?_
    exact g_iret E Z dX7_gateway_21 ⟨_, rfl, Or.inr ⟨by omega, rfl, rfl⟩⟩
  · have k_4 := q_b1.mp c_4
    refine g_iload_2 E dX7_gateway_7 ?_
    refine g_i2l E dX7_gateway_8 ?_
    refine g_lconst (v := 0) E dX7_gateway_9 (by decide) ?_
    refine g_ldc2 E kw_X7_102 dX7_gateway_10 ?_
    refine g_cSi3 E (c_X7_isWithinI _ _ _ (0) (10) (by decide) (by decide)) cw_X7_47 (by decide) (by decide) (Nat.le_of_ble_eq_true rfl) dX7_gateway_13 (fun v_13 h_13 hp => ?_)
    obtain ⟨rfl, rfl⟩ := hp
    refine g_if_ne (tgt := 22) E dX7_gateway_16 (by decide) (fun c_16 => ?_) (fun c_16 => ?_)
    · have k_16 := q_b1.mp c_16
      obtain ⟨j, hj, rfl⟩ := q_nat (b := 2) k_4.1 (by omega)
      refine g_aload_0 E dX7_gateway_22 ?_
      refine g_getR E (by first | assumption | rfl) (by first | assumption | rfl) fl_X7_12 rfl (by first | assumption | rfl) dX7_gateway_23 ?_
      refine g_getR E (by first | assumption | rfl) (by first | assumption | rfl) fl_X7_104 rfl (by first | assumption | rfl) dX7_gateway_26 ?_
      refine g_iload_1 E dX7_gateway_29 ?_
      refine g_iload_2 E dX7_gateway_30 ?_
      refine g_iast E (by first | assumption | rfl) (by first | assumption | rfl) dX7_gateway_31 (q_ix_n (by omega)) ?_
      refine g_aload_0 E dX7_gateway_32 ?_
      refine g_getR E (by first | assumption | rfl) (by first | assumption | rfl) fl_X7_12 rfl (by first | assumption | rfl) dX7_gateway_33 ?_
      refine g_getR E (by first | assumption | rfl) (by first | assumption | rfl) fl_X7_107 rfl (by first | assumption | rfl) dX7_gateway_36 ?_
      refine g_iload_1 E dX7_gateway_39 ?_
      refine g_iload_3 E dX7_gateway_40 ?_
      first | refine g_zast E (by first | assumption | rfl) (by first | assumption | rfl) dX7_gateway_41 (q_ix_n (by omega)) (by rcases hu with rfl | rfl <;> rfl) ?_ | refine g_bast E (by first | assumption | rfl) (by first | assumption | rfl) dX7_gateway_41 (q_ix_n (by omega)) (by rcases hu with rfl | rfl <;> rfl) ?_
      refine g_iconst (v := 0) E dX7_gateway_42 (by decide) ?_
      exact g_iret E Z dX7_gateway_43 ⟨_, rfl, Or.inl ⟨j, by omega, rfl, k_16, rfl, rfl⟩⟩
    · have k_16 := q_b0.mp c_16
      refine g_bipush (v := -2) E dX7_gateway_19 (by decide) ?_
      exact g_iret E Z dX7_gateway_21 ⟨_, rfl, Or.inr ⟨by omega, rfl, rfl⟩⟩
set_option maxHeartbeats 4000000 in
set_option maxRecDepth 100000 in
theorem c_X7_swap {n : Nat} {sB tB : Bool} {f : Nat → Nat → Int32} {g : Nat → Nat → Int64} (hn : f 1 1 = nI n) (h10 : n ≤ 10) (c x : Int32) : q_ConI yX7_swap cX7_swap 3 (some .int) 2 45 tyX (alX n sB tB) [.ref 0, .int c, .int x] (f, g, rfX n sB tB) (fun v h' => (∃ j : Nat, j < n ∧ c = nI j ∧ (0 ≤ x.toInt ∧ x.toInt ≤ 2) ∧ ¬ f (j + 40) 3 = x ∧ ((0 < f (j + 40) 7 ∧ v = -7 ∧ h' = (f, g, rfX n sB tB)) ∨ (¬ 0 < f (j + 40) 7 ∧ v = 0 ∧ h' = (q_up (q_up f (j + 40) 3 x) (j + 40) 7 (f 1 7), g, rfX n sB tB)))) ∨ (¬ ((0 ≤ c.toInt ∧ c.toInt < n) ∧ (0 ≤ x.toInt ∧ x.toInt ≤ 2) ∧ ¬ f (c.toNatClampNeg + 40) 3 = x) ∧ v = -2 ∧ h' = (f, g, rfX n sB tB))) := by
  refine q_Con.of RX7 [some (.ref 0), some (.int c), some (.int x)] (by decide +kernel) rfl rfl (Nat.le_of_ble_eq_true rfl) (fun C ad E Z => ?_)
  refine g_aload_0 E dX7_swap_0 ?_
  refine g_getR E (by first | assumption | rfl) (by first | assumption | rfl) fl_X7_12 rfl (by first | assumption | rfl) dX7_swap_1 ?_
  refine g_iload_1 E dX7_swap_4 ?_
  refine g_cVi1 E (c_X2_hasCell n (by exact hn) (by omega) _) cw_X7_87 (by decide) (by decide) (by first | assumption | rfl) (by first | assumption | rfl) (Nat.le_of_ble_eq_true rfl) dX7_swap_5 (fun v_5 h_5 hp => ?_)
  obtain ⟨rfl, rfl⟩ := hp
  refine g_if_eq (tgt := 34) E dX7_swap_8 (by decide) (fun c_8 => ?_) (fun c_8 => ?_)
  · have k_8 := q_b0.mp c_8
    refine g_bipush (v := -2) E dX7_swap_34 (by decide) ?_
    exact g_iret E Z dX7_swap_36 ⟨_, rfl, Or.inr ⟨by first | omega | (rintro ⟨_, _, q⟩; rw [kj] at q; exact q c_31), rfl, rfl⟩⟩
  · have k_8 := q_b1.mp c_8
    refine g_iload_2 E dX7_swap_11 ?_
    refine g_cSi1 E (c_X7_isGateway _) cw_X7_71 (by decide) (by decide) (Nat.le_of_ble_eq_true rfl) dX7_swap_12 (fun v_12 h_12 hp => ?_)
    obtain ⟨rfl, rfl⟩ := hp
    refine g_if_eq (tgt := 34) E dX7_swap_15 (by decide) (fun c_15 => ?_) (fun c_15 => ?_)
    · have k_15 := q_b0.mp c_15
      refine g_bipush (v := -2) E dX7_swap_34 (by decide) ?_
      exact g_iret E Z dX7_swap_36 ⟨_, rfl, Or.inr ⟨by first | omega | (rintro ⟨_, _, q⟩; rw [kj] at q; exact q c_31), rfl, rfl⟩⟩
    · have k_15 := q_b1.mp c_15
      obtain ⟨j, hj, rfl⟩ := q_nat (b := n - 1) k_8.1 (by omega)
      have hjn : j < n := by have := k_8.2; rw [nI_toInt (by omega)] at this; omega
      have kj : (nI j).toNatClampNeg = j := nI_clamp (by omega)
      have hac_j : alX n sB tB (j + 40) = true := alX_c (by omega)
      have htc_j : tyX (j + 40) = .inr 0 := tyX_c (by omega)
      have hrc_j : rfX n sB tB 8 j = some (j + 40) := rfX_c (by omega)
      refine g_aload_0 E dX7_swap_18 ?_
      refine g_getR E (by first | assumption | rfl) (by first | assumption | rfl) fl_X7_12 rfl (by first | assumption | rfl) dX7_swap_19 ?_
      refine g_getR E (by first | assumption | rfl) (by first | assumption | rfl) fl_X7_78 rfl (by first | assumption | rfl) dX7_swap_22 ?_
      refine g_iload_1 E dX7_swap_25 ?_
      first | refine g_aald E (by first | assumption | rfl) (by first | assumption | rfl) dX7_swap_26 (q_ix_n (by omega)) (by first | assumption | rfl) ?_ | refine g_aaldJ E (by first | assumption | rfl) (by first | assumption | rfl) dX7_swap_26 (q_ix_n (by omega)) (by first | assumption | rfl) ?_
      refine g_getI E (by first | assumption | rfl) (by first | assumption | rfl) fl_X7_111 rfl dX7_swap_27 ?_
      refine g_iload_2 E dX7_swap_30 ?_
      refine g_icmp_ne (tgt := 37) E dX7_swap_31 (by decide) (fun c_31 => ?_) (fun c_31 => ?_)
      · refine g_aload_0 E dX7_swap_37 ?_
        refine g_getR E (by first | assumption | rfl) (by first | assumption | rfl) fl_X7_12 rfl (by first | assumption | rfl) dX7_swap_38 ?_
        refine g_getR E (by first | assumption | rfl) (by first | assumption | rfl) fl_X7_78 rfl (by first | assumption | rfl) dX7_swap_41 ?_
        refine g_iload_1 E dX7_swap_44 ?_
        first | refine g_aald E (by first | assumption | rfl) (by first | assumption | rfl) dX7_swap_45 (q_ix_n (by omega)) (by first | assumption | rfl) ?_ | refine g_aaldJ E (by first | assumption | rfl) (by first | assumption | rfl) dX7_swap_45 (q_ix_n (by omega)) (by first | assumption | rfl) ?_
        refine g_getI E (by first | assumption | rfl) (by first | assumption | rfl) fl_X7_114 rfl dX7_swap_46 ?_
        refine g_if_le (tgt := 55) E dX7_swap_49 (by decide) (fun c_49 => ?_) (fun c_49 => ?_)
        · have k49 : ¬ 0 < f (j + 40) 7 := fun q => absurd c_49 (Int32.not_le.mpr q)
          refine g_aload_0 E dX7_swap_55 ?_
          refine g_getR E (by first | assumption | rfl) (by first | assumption | rfl) fl_X7_12 rfl (by first | assumption | rfl) dX7_swap_56 ?_
          refine g_getR E (by first | assumption | rfl) (by first | assumption | rfl) fl_X7_78 rfl (by first | assumption | rfl) dX7_swap_59 ?_
          refine g_iload_1 E dX7_swap_62 ?_
          first | refine g_aald E (by first | assumption | rfl) (by first | assumption | rfl) dX7_swap_63 (q_ix_n (by omega)) (by first | assumption | rfl) ?_ | refine g_aaldJ E (by first | assumption | rfl) (by first | assumption | rfl) dX7_swap_63 (q_ix_n (by omega)) (by first | assumption | rfl) ?_
          refine g_iload_2 E dX7_swap_64 ?_
          refine g_putI E (by first | assumption | rfl) (by first | assumption | rfl) fw_X7_111 rfl dX7_swap_65 ?_
          refine g_aload_0 E dX7_swap_68 ?_
          refine g_getR E (by first | assumption | rfl) (by first | assumption | rfl) fl_X7_12 rfl (by first | assumption | rfl) dX7_swap_69 ?_
          refine g_getR E (by first | assumption | rfl) (by first | assumption | rfl) fl_X7_78 rfl (by first | assumption | rfl) dX7_swap_72 ?_
          refine g_iload_1 E dX7_swap_75 ?_
          first | refine g_aald E (by first | assumption | rfl) (by first | assumption | rfl) dX7_swap_76 (q_ix_n (by omega)) (by first | assumption | rfl) ?_ | refine g_aaldJ E (by first | assumption | rfl) (by first | assumption | rfl) dX7_swap_76 (q_ix_n (by omega)) (by first | assumption | rfl) ?_
          refine g_aload_0 E dX7_swap_77 ?_
          refine g_getR E (by first | assumption | rfl) (by first | assumption | rfl) fl_X7_12 rfl (by first | assumption | rfl) dX7_swap_78 ?_
          refine g_getI E (by first | assumption | rfl) (by first | assumption | rfl) fl_X7_66 rfl dX7_swap_81 ?_
          refine g_putI E (by first | assumption | rfl) (by first | assumption | rfl) fw_X7_114 rfl dX7_swap_84 ?_
          refine g_iconst (v := 0) E dX7_swap_87 (by decide) ?_
          exact g_iret E Z dX7_swap_88 ⟨_, rfl, Or.inl ⟨j, hjn, rfl, k_15, c_31, Or.inr ⟨k49, rfl, by rw [q_up_ne (show 1 ≠ j + 40 by omega)]⟩⟩⟩
        · have k49 : 0 < f (j + 40) 7 := Int32.not_le.mp c_49
          refine g_bipush (v := -7) E dX7_swap_52 (by decide) ?_
          exact g_iret E Z dX7_swap_54 ⟨_, rfl, Or.inl ⟨j, hjn, rfl, k_15, c_31, Or.inl ⟨k49, rfl, rfl⟩⟩⟩
      · refine g_bipush (v := -2) E dX7_swap_34 (by decide) ?_
        exact g_iret E Z dX7_swap_36 ⟨_, rfl, Or.inr ⟨by first | omega | (rintro ⟨_, _, q⟩; rw [kj] at q; exact q c_31), rfl, rfl⟩⟩
set_option maxHeartbeats 4000000 in
set_option maxRecDepth 100000 in
theorem c_X7_forbid {n : Nat} {sB tB : Bool} {f : Nat → Nat → Int32} {g : Nat → Nat → Int64} (hn : f 1 1 = nI n) (h10 : n ≤ 10) (a b u : Int32) (hu : u = 0 ∨ u = 1) : q_ConI yX7_forbid cX7_forbid 4 (some .boolean) 1 21 tyX (alX n sB tB) [.ref 0, .int a, .int b, .int u] (f, g, rfX n sB tB) (fun v h' => (∃ A B : Nat, A < n ∧ B < n ∧ a = nI A ∧ b = nI B ∧ ¬ a = b ∧ ¬ q_b (¬ q_bit (f (A + 40) 8) b = 0) = u ∧ v = 1 ∧ h' = (q_up (q_up f (A + 40) 8 (f (A + 40) 8 ^^^ (1 <<< (b &&& 31)))) (B + 40) 8 (f (B + 40) 8 ^^^ (1 <<< (a &&& 31))), g, rfX n sB tB)) ∨ (¬ ((0 ≤ a.toInt ∧ a.toInt < n) ∧ (0 ≤ b.toInt ∧ b.toInt < n) ∧ ¬ a = b ∧ ¬ q_b (¬ q_bit (f (a.toNatClampNeg + 40) 8) b = 0) = u) ∧ v = 0 ∧ h' = (f, g, rfX n sB tB))) := by
  refine q_Con.of RX7 [some (.ref 0), some (.int a), some (.int b), some (.int u)] (by decide +kernel) rfl rfl (Nat.le_of_ble_eq_true rfl) (fun C ad E Z => ?_)
  refine g_aload_0 E dX7_forbid_0 ?_
  refine g_getR E (by first | assumption | rfl) (by first | assumption | rfl) fl_X7_12 rfl (by first | assumption | rfl) dX7_forbid_1 ?_
  refine g_iload_1 E dX7_forbid_4 ?_
  refine g_cVi1 E (c_X2_hasCell n (by exact hn) (by omega) _) cw_X7_87 (by decide) (by decide) (by first | assumption | rfl) (by first | assumption | rfl) (Nat.le_of_ble_eq_true rfl) dX7_forbid_5 (fun v_5 h_5 hp => ?_)
  obtain ⟨rfl, rfl⟩ := hp
  refine g_if_eq (tgt := 27) E dX7_forbid_8 (by decide) (fun c_8 => ?_) (fun c_8 => ?_)
  · have k_8 := q_b0.mp c_8
    refine g_iconst (v := 0) E dX7_forbid_27 (by decide) ?_
    exact g_zret E Z dX7_forbid_28 rfl ⟨_, rfl, Or.inr ⟨by first | omega | (rintro ⟨_, _, q, _⟩; exact q c_24), rfl, rfl⟩⟩
  · have k_8 := q_b1.mp c_8
    refine g_aload_0 E dX7_forbid_11 ?_
    refine g_getR E (by first | assumption | rfl) (by first | assumption | rfl) fl_X7_12 rfl (by first | assumption | rfl) dX7_forbid_12 ?_
    refine g_iload_2 E dX7_forbid_15 ?_
    refine g_cVi1 E (c_X2_hasCell n (by exact hn) (by omega) _) cw_X7_87 (by decide) (by decide) (by first | assumption | rfl) (by first | assumption | rfl) (Nat.le_of_ble_eq_true rfl) dX7_forbid_16 (fun v_16 h_16 hp => ?_)
    obtain ⟨rfl, rfl⟩ := hp
    refine g_if_eq (tgt := 27) E dX7_forbid_19 (by decide) (fun c_19 => ?_) (fun c_19 => ?_)
    · have k_19 := q_b0.mp c_19
      refine g_iconst (v := 0) E dX7_forbid_27 (by decide) ?_
      exact g_zret E Z dX7_forbid_28 rfl ⟨_, rfl, Or.inr ⟨by first | omega | (rintro ⟨_, _, q, _⟩; exact q c_24), rfl, rfl⟩⟩
    · have k_19 := q_b1.mp c_19
      refine g_iload_1 E dX7_forbid_22 ?_
      refine g_iload_2 E dX7_forbid_23 ?_
      refine g_icmp_ne (tgt := 29) E dX7_forbid_24 (by decide) (fun c_24 => ?_) (fun c_24 => ?_)
      · obtain ⟨A, hA, rfl⟩ := q_nat (b := n - 1) k_8.1 (by omega)
        have hAn : A < n := by have := k_8.2; rw [nI_toInt (by omega)] at this; omega
        obtain ⟨B, hB, rfl⟩ := q_nat (b := n - 1) k_19.1 (by omega)
        have hBn : B < n := by have := k_19.2; rw [nI_toInt (by omega)] at this; omega
        have kA : (nI A).toNatClampNeg = A := nI_clamp (by omega)
        have hBA : B + 40 ≠ A + 40 := fun e => c_24 (by rw [show B = A by omega])
        have hac_A : alX n sB tB (A + 40) = true := alX_c (by omega)
        have htc_A : tyX (A + 40) = .inr 0 := tyX_c (by omega)
        have hrc_A : rfX n sB tB 8 A = some (A + 40) := rfX_c (by omega)
        have hac_B : alX n sB tB (B + 40) = true := alX_c (by omega)
        have htc_B : tyX (B + 40) = .inr 0 := tyX_c (by omega)
        have hrc_B : rfX n sB tB 8 B = some (B + 40) := rfX_c (by omega)
        refine g_aload_0 E dX7_forbid_29 ?_
        refine g_getR E (by first | assumption | rfl) (by first | assumption | rfl) fl_X7_12 rfl (by first | assumption | rfl) dX7_forbid_30 ?_
        refine g_getR E (by first | assumption | rfl) (by first | assumption | rfl) fl_X7_78 rfl (by first | assumption | rfl) dX7_forbid_33 ?_
        refine g_iload_1 E dX7_forbid_36 ?_
        first | refine g_aald E (by first | assumption | rfl) (by first | assumption | rfl) dX7_forbid_37 (q_ix_n (by omega)) (by first | assumption | rfl) ?_ | refine g_aaldJ E (by first | assumption | rfl) (by first | assumption | rfl) dX7_forbid_37 (q_ix_n (by omega)) (by first | assumption | rfl) ?_
        refine g_getI E (by first | assumption | rfl) (by first | assumption | rfl) fl_X7_90 rfl dX7_forbid_38 ?_
        refine g_iload_2 E dX7_forbid_41 ?_
        refine g_cSi2 E (c_X7_contains _ _) cw_X7_93 (by decide) (by decide) (Nat.le_of_ble_eq_true rfl) dX7_forbid_42 (fun v_42 h_42 hp => ?_)
        obtain ⟨rfl, rfl⟩ := hp
        refine g_iload_3 E dX7_forbid_45 ?_
        refine g_icmp_ne (tgt := 51) E dX7_forbid_46 (by decide) (fun c_46 => ?_) (fun c_46 => ?_)
        · refine g_aload_0 E dX7_forbid_51 ?_
          refine g_getR E (by first | assumption | rfl) (by first | assumption | rfl) fl_X7_12 rfl (by first | assumption | rfl) dX7_forbid_52 ?_
          refine g_getR E (by first | assumption | rfl) (by first | assumption | rfl) fl_X7_78 rfl (by first | assumption | rfl) dX7_forbid_55 ?_
          refine g_iload_1 E dX7_forbid_58 ?_
          first | refine g_aald E (by first | assumption | rfl) (by first | assumption | rfl) dX7_forbid_59 (q_ix_n (by omega)) (by first | assumption | rfl) ?_ | refine g_aaldJ E (by first | assumption | rfl) (by first | assumption | rfl) dX7_forbid_59 (q_ix_n (by omega)) (by first | assumption | rfl) ?_
          first | refine g_dupi E dX7_forbid_60 ?_ | refine g_dupr E dX7_forbid_60 ?_
          refine g_getI E (by first | assumption | rfl) (by first | assumption | rfl) fl_X7_90 rfl dX7_forbid_61 ?_
          refine g_iconst (v := 1) E dX7_forbid_64 (by decide) ?_
          refine g_iload_2 E dX7_forbid_65 ?_
          refine g_ishl E dX7_forbid_66 ?_
          refine g_ixor E dX7_forbid_67 ?_
          refine g_putI E (by first | assumption | rfl) (by first | assumption | rfl) fw_X7_90 rfl dX7_forbid_68 ?_
          refine g_aload_0 E dX7_forbid_71 ?_
          refine g_getR E (by first | assumption | rfl) (by first | assumption | rfl) fl_X7_12 rfl (by first | assumption | rfl) dX7_forbid_72 ?_
          refine g_getR E (by first | assumption | rfl) (by first | assumption | rfl) fl_X7_78 rfl (by first | assumption | rfl) dX7_forbid_75 ?_
          refine g_iload_2 E dX7_forbid_78 ?_
          first | refine g_aald E (by first | assumption | rfl) (by first | assumption | rfl) dX7_forbid_79 (q_ix_n (by omega)) (by first | assumption | rfl) ?_ | refine g_aaldJ E (by first | assumption | rfl) (by first | assumption | rfl) dX7_forbid_79 (q_ix_n (by omega)) (by first | assumption | rfl) ?_
          first | refine g_dupi E dX7_forbid_80 ?_ | refine g_dupr E dX7_forbid_80 ?_
          refine g_getI E (by first | assumption | rfl) (by first | assumption | rfl) fl_X7_90 rfl dX7_forbid_81 ?_
          refine g_iconst (v := 1) E dX7_forbid_84 (by decide) ?_
          refine g_iload_1 E dX7_forbid_85 ?_
          refine g_ishl E dX7_forbid_86 ?_
          refine g_ixor E dX7_forbid_87 ?_
          refine g_putI E (by first | assumption | rfl) (by first | assumption | rfl) fw_X7_90 rfl dX7_forbid_88 ?_
          refine g_iconst (v := 1) E dX7_forbid_91 (by decide) ?_
          exact g_zret E Z dX7_forbid_92 rfl ⟨_, rfl, Or.inl ⟨A, B, hAn, hBn, rfl, rfl, c_24, c_46, rfl, by rw [q_up_ne hBA]⟩⟩
        · refine g_iconst (v := 0) E dX7_forbid_49 (by decide) ?_
          exact g_zret E Z dX7_forbid_50 rfl ⟨_, rfl, Or.inr ⟨by (rintro ⟨_, _, _, q⟩; rw [kA] at q; exact q c_46), rfl, rfl⟩⟩
      · refine g_iconst (v := 0) E dX7_forbid_27 (by decide) ?_
        exact g_zret E Z dX7_forbid_28 rfl ⟨_, rfl, Or.inr ⟨by first | omega | (rintro ⟨_, _, q, _⟩; exact q c_24), rfl, rfl⟩⟩
set_option maxHeartbeats 4000000 in
set_option maxRecDepth 100000 in
theorem c_X7_rule {n : Nat} {sB tB : Bool} {f : Nat → Nat → Int32} {g : Nat → Nat → Int64} (x : Int32) : q_ConI yX7_rule cX7_rule 3 (some .int) 1 25 tyX (alX n sB tB) [.ref 0, .int x] (f, g, rfX n sB tB) (fun v h' => ((0 ≤ x.toInt ∧ x.toInt ≤ 1) ∧ v = f 0 7 ∧ h' = (q_up f 0 7 x, g, rfX n sB tB)) ∨ (¬ (0 ≤ x.toInt ∧ x.toInt ≤ 1) ∧ v = -2 ∧ h' = (f, g, rfX n sB tB))) := by
  refine q_Con.of RX7 [some (.ref 0), some (.int x), none] (by decide +kernel) rfl rfl (Nat.le_of_ble_eq_true rfl) (fun C ad E Z => ?_)
  refine g_iload_1 E dX7_rule_0 ?_
  refine g_i2l E dX7_rule_1 ?_
  refine g_lconst (v := 0) E dX7_rule_2 (by decide) ?_
  refine g_lconst (v := 1) E dX7_rule_3 (by decide) ?_
  refine g_cSi3 E (c_X7_isWithinI _ _ _ (0) (1) (by decide) (by decide)) cw_X7_47 (by decide) (by decide) (Nat.le_of_ble_eq_true rfl) dX7_rule_4 (fun v_4 h_4 hp => ?_)
  obtain ⟨rfl, rfl⟩ := hp
  refine g_if_ne (tgt := 13) E dX7_rule_7 (by decide) (fun c_7 => ?_) (fun c_7 => ?_)
  · have k_7 := q_b1.mp c_7
    refine g_aload_0 E dX7_rule_13 ?_
    refine g_getI E (by first | assumption | rfl) (by first | assumption | rfl) fl_X7_220 rfl dX7_rule_14 ?_
    refine g_istore_2 E dX7_rule_17 (by decide) rfl ?_
    refine g_aload_0 E dX7_rule_18 ?_
    refine g_iload_1 E dX7_rule_19 ?_
    refine g_putI E (by first | assumption | rfl) (by first | assumption | rfl) fw_X7_220 rfl dX7_rule_20 ?_
    refine g_iload_2 E dX7_rule_23 ?_
    exact g_iret E Z dX7_rule_24 ⟨_, rfl, Or.inl ⟨k_7, rfl, rfl⟩⟩
  · have k_7 := q_b0.mp c_7
    refine g_bipush (v := -2) E dX7_rule_10 (by decide) ?_
    exact g_iret E Z dX7_rule_12 ⟨_, rfl, Or.inr ⟨k_7, rfl, rfl⟩⟩
set_option maxHeartbeats 4000000 in
set_option maxRecDepth 100000 in
theorem c_X7_lit {n : Nat} {sB tB : Bool} {f : Nat → Nat → Int32} {g : Nat → Nat → Int64}  : q_ConI yX7_lit cX7_lit 1 (some .int) 0 0 tyX (alX n sB tB) [.ref 0] (f, g, rfX n sB tB) (fun v h' => v = f 0 9 ∧ h' = (f, g, rfX n sB tB)) := by
  refine q_Con.of RX7 [some (.ref 0)] (by decide +kernel) rfl rfl (Nat.le_of_ble_eq_true rfl) (fun C ad E Z => ?_)
  refine g_aload_0 E dX7_lit_0 ?_
  refine g_getI E (by first | assumption | rfl) (by first | assumption | rfl) fl_X7_41 rfl dX7_lit_1 ?_
  exact g_iret E Z dX7_lit_4 ⟨_, rfl, ⟨rfl, rfl⟩⟩
set_option maxHeartbeats 4000000 in
set_option maxRecDepth 100000 in
theorem c_X7_frame {n : Nat} {sB tB : Bool} {f : Nat → Nat → Int32} {g : Nat → Nat → Int64} (m : Nat) (hm : f 4 1 = nI m) (hm2 : m ≤ 90) (x : Int32) : q_ConI yX7_frame cX7_frame 2 (some .int) 1 21 tyX (alX n sB tB) [.ref 0, .int x] (f, g, rfX n sB tB) (fun v h' => v = (if 0 ≤ x.toInt ∧ x.toInt < m then f 21 x.toNatClampNeg else -1) ∧ h' = (f, g, rfX n sB tB)) := by
  refine q_Con.of RX7 [some (.ref 0), some (.int x)] (by decide +kernel) rfl rfl (Nat.le_of_ble_eq_true rfl) (fun C ad E Z => ?_)
  refine g_aload_0 E dX7_frame_0 ?_
  refine g_getR E (by first | assumption | rfl) (by first | assumption | rfl) fl_X7_33 rfl (by first | assumption | rfl) dX7_frame_1 ?_
  refine g_iload_1 E dX7_frame_4 ?_
  refine g_cVi1 E (c_X1_has m (by exact hm) (by omega) _) cw_X7_171 (by decide) (by decide) (by first | assumption | rfl) (by first | assumption | rfl) (Nat.le_of_ble_eq_true rfl) dX7_frame_5 (fun v_5 h_5 hp => ?_)
  obtain ⟨rfl, rfl⟩ := hp
  refine g_if_eq (tgt := 23) E dX7_frame_8 (by decide) (fun c_8 => ?_) (fun c_8 => ?_)
  · have k_8 := q_b0.mp c_8
    refine g_iconst (v := -1) E dX7_frame_23 (by decide) ?_
    exact g_iret E Z dX7_frame_24 ⟨_, rfl, ⟨by first | (rw [if_neg k_8]; done) | (rw [if_pos k_8, nI_clamp (by omega)]), rfl⟩⟩
  · have k_8 := q_b1.mp c_8
    obtain ⟨j, hj, rfl⟩ := q_nat (b := m - 1) k_8.1 (by omega)
    have hjn : j < m := by have := k_8.2; rw [nI_toInt (by omega)] at this; omega
    refine g_aload_0 E dX7_frame_11 ?_
    refine g_getR E (by first | assumption | rfl) (by first | assumption | rfl) fl_X7_33 rfl (by first | assumption | rfl) dX7_frame_12 ?_
    refine g_getR E (by first | assumption | rfl) (by first | assumption | rfl) fl_X7_174 rfl (by first | assumption | rfl) dX7_frame_15 ?_
    refine g_iload_1 E dX7_frame_18 ?_
    refine g_iald E (by first | assumption | rfl) (by first | assumption | rfl) dX7_frame_19 (q_ix_n (by omega)) ?_
    refine g_goto (tgt := 24) E dX7_frame_20 (by decide) ?_
    exact g_iret E Z dX7_frame_24 ⟨_, rfl, ⟨by first | (rw [if_neg k_8]; done) | (rw [if_pos k_8, nI_clamp (by omega)]), rfl⟩⟩
set_option maxHeartbeats 4000000 in
set_option maxRecDepth 100000 in
theorem c_X7_cellOf {n : Nat} {sB tB : Bool} {f : Nat → Nat → Int32} {g : Nat → Nat → Int64} (hn : f 1 1 = nI n) (h10 : n ≤ 10) (c x : Int32) : q_ConI yX7_cellOf cX7_cellOf 3 (some .int) 2 42 tyX (alX n sB tB) [.ref 0, .int c, .int x] (f, g, rfX n sB tB) (fun v h' => v = (if 0 ≤ c.toInt ∧ c.toInt < n then q_celX f g c.toNatClampNeg x else -2) ∧ h' = (f, g, rfX n sB tB)) := by
  refine q_Con.of RX7 [some (.ref 0), some (.int c), some (.int x)] (by decide +kernel) rfl rfl (Nat.le_of_ble_eq_true rfl) (fun C ad E Z => ?_)
  refine g_aload_0 E dX7_cellOf_0 ?_
  refine g_getR E (by first | assumption | rfl) (by first | assumption | rfl) fl_X7_12 rfl (by first | assumption | rfl) dX7_cellOf_1 ?_
  refine g_iload_1 E dX7_cellOf_4 ?_
  refine g_cVi1 E (c_X2_hasCell n (by exact hn) (by omega) _) cw_X7_87 (by decide) (by decide) (by first | assumption | rfl) (by first | assumption | rfl) (Nat.le_of_ble_eq_true rfl) dX7_cellOf_5 (fun v_5 h_5 hp => ?_)
  obtain ⟨rfl, rfl⟩ := hp
  refine g_if_eq (tgt := 27) E dX7_cellOf_8 (by decide) (fun c_8 => ?_) (fun c_8 => ?_)
  · have k_8 := q_b0.mp c_8
    refine g_bipush (v := -2) E dX7_cellOf_27 (by decide) ?_
    exact g_iret E Z dX7_cellOf_29 ⟨_, rfl, ⟨by first | (rw [if_neg k_8]; done) | (rw [if_pos k_8, kj]), rfl⟩⟩
  · have k_8 := q_b1.mp c_8
    obtain ⟨j, hj, rfl⟩ := q_nat (b := n - 1) k_8.1 (by omega)
    have hjn : j < n := by have := k_8.2; rw [nI_toInt (by omega)] at this; omega
    have kj : (nI j).toNatClampNeg = j := nI_clamp (by omega)
    have hac_j : alX n sB tB (j + 40) = true := alX_c (by omega)
    have htc_j : tyX (j + 40) = .inr 0 := tyX_c (by omega)
    have hrc_j : rfX n sB tB 8 j = some (j + 40) := rfX_c (by omega)
    refine g_aload_0 E dX7_cellOf_11 ?_
    refine g_getR E (by first | assumption | rfl) (by first | assumption | rfl) fl_X7_12 rfl (by first | assumption | rfl) dX7_cellOf_12 ?_
    refine g_getR E (by first | assumption | rfl) (by first | assumption | rfl) fl_X7_78 rfl (by first | assumption | rfl) dX7_cellOf_15 ?_
    refine g_iload_1 E dX7_cellOf_18 ?_
    first | refine g_aald E (by first | assumption | rfl) (by first | assumption | rfl) dX7_cellOf_19 (q_ix_n (by omega)) (by first | assumption | rfl) ?_ | refine g_aaldJ E (by first | assumption | rfl) (by first | assumption | rfl) dX7_cellOf_19 (q_ix_n (by omega)) (by first | assumption | rfl) ?_
    refine g_iload_2 E dX7_cellOf_20 ?_
    refine g_cVi1 E (c_X0_tell j hjn h10 _) cw_X7_231 (by decide) (by decide) (by first | assumption | rfl) (by first | assumption | rfl) (Nat.le_of_ble_eq_true rfl) dX7_cellOf_21 (fun v_21 h_21 hp => ?_)
    obtain ⟨rfl, rfl⟩ := hp
    refine g_goto (tgt := 29) E dX7_cellOf_24 (by decide) ?_
    exact g_iret E Z dX7_cellOf_29 ⟨_, rfl, ⟨by first | (rw [if_neg k_8]; done) | (rw [if_pos k_8, kj]), rfl⟩⟩
set_option maxHeartbeats 4000000 in
set_option maxRecDepth 100000 in
theorem c_X7_units {n : Nat} {sB tB : Bool} {f : Nat → Nat → Int32} {g : Nat → Nat → Int64} (hn : f 1 1 = nI n) (h10 : n ≤ 10) (c x : Int32) : q_ConL yX7_units cX7_units 3 (some .long) 1 21 tyX (alX n sB tB) [.ref 0, .int c, .int x] (f, g, rfX n sB tB) (fun v h' => v = (if 0 ≤ c.toInt ∧ c.toInt < n then (if x = 0 then g (c.toNatClampNeg + 40) 10 else if x = 1 then g (c.toNatClampNeg + 40) 11 else if x = 2 then g (c.toNatClampNeg + 40) 12 else -2) else -2) ∧ h' = (f, g, rfX n sB tB)) := by
  refine q_Con.of RX7 [some (.ref 0), some (.int c), some (.int x)] (by decide +kernel) rfl rfl (Nat.le_of_ble_eq_true rfl) (fun C ad E Z => ?_)
  refine g_aload_0 E dX7_units_0 ?_
  refine g_getR E (by first | assumption | rfl) (by first | assumption | rfl) fl_X7_12 rfl (by first | assumption | rfl) dX7_units_1 ?_
  refine g_iload_1 E dX7_units_4 ?_
  refine g_cVi1 E (c_X2_hasCell n (by exact hn) (by omega) _) cw_X7_87 (by decide) (by decide) (by first | assumption | rfl) (by first | assumption | rfl) (Nat.le_of_ble_eq_true rfl) dX7_units_5 (fun v_5 h_5 hp => ?_)
  obtain ⟨rfl, rfl⟩ := hp
  refine g_if_eq (tgt := 27) E dX7_units_8 (by decide) (fun c_8 => ?_) (fun c_8 => ?_)
  · have k_8 := q_b0.mp c_8
    refine g_ldc2 E kw_X7_238 dX7_units_27 ?_
    exact g_lret E Z dX7_units_30 ⟨_, rfl, ⟨by first | (rw [if_neg k_8]; done) | (rw [if_pos k_8, kj]), rfl⟩⟩
  · have k_8 := q_b1.mp c_8
    obtain ⟨j, hj, rfl⟩ := q_nat (b := n - 1) k_8.1 (by omega)
    have hjn : j < n := by have := k_8.2; rw [nI_toInt (by omega)] at this; omega
    have kj : (nI j).toNatClampNeg = j := nI_clamp (by omega)
    have hac_j : alX n sB tB (j + 40) = true := alX_c (by omega)
    have htc_j : tyX (j + 40) = .inr 0 := tyX_c (by omega)
    have hrc_j : rfX n sB tB 8 j = some (j + 40) := rfX_c (by omega)
    refine g_aload_0 E dX7_units_11 ?_
    refine g_getR E (by first | assumption | rfl) (by first | assumption | rfl) fl_X7_12 rfl (by first | assumption | rfl) dX7_units_12 ?_
    refine g_getR E (by first | assumption | rfl) (by first | assumption | rfl) fl_X7_78 rfl (by first | assumption | rfl) dX7_units_15 ?_
    refine g_iload_1 E dX7_units_18 ?_
    first | refine g_aald E (by first | assumption | rfl) (by first | assumption | rfl) dX7_units_19 (q_ix_n (by omega)) (by first | assumption | rfl) ?_ | refine g_aaldJ E (by first | assumption | rfl) (by first | assumption | rfl) dX7_units_19 (q_ix_n (by omega)) (by first | assumption | rfl) ?_
    refine g_iload_2 E dX7_units_20 ?_
    refine g_cVl1 E (c_X0_tellUnits j hjn h10 _) cw_X7_234 (by decide) (by decide) (by first | assumption | rfl) (by first | assumption | rfl) (Nat.le_of_ble_eq_true rfl) dX7_units_21 (fun v_21 h_21 hp => ?_)
    obtain ⟨rfl, rfl⟩ := hp
    refine g_goto (tgt := 30) E dX7_units_24 (by decide) ?_
    exact g_lret E Z dX7_units_30 ⟨_, rfl, ⟨by first | (rw [if_neg k_8]; done) | (rw [if_pos k_8, kj]), rfl⟩⟩
def q_cntX (f : Nat → Nat → Int32) (x : Int32) : Int32 := if x = 0 then f 1 1 else if x = 1 then f 1 4 else if x = 2 then f 1 5 else if x = 3 then f 1 6 else if x = 4 then f 1 7 else if x = 5 then f 0 8 else if x = 6 then f 0 7 else if x = 7 then f 4 1 else if x = 8 then f 0 10 else if x = 9 then q_sum (fun s => if f 20 s = -1 then 0 else 1) 4 else -1
set_option maxHeartbeats 4000000 in
set_option maxRecDepth 100000 in
theorem c_X7_count {n : Nat} {sB tB : Bool} {f : Nat → Nat → Int32} {g : Nat → Nat → Int64} (x : Int32) : q_ConI yX7_count cX7_count 2 (some .int) 1 22 tyX (alX n sB tB) [.ref 0, .int x] (f, g, rfX n sB tB) (fun v h' => v = q_cntX f x ∧ h' = (f, g, rfX n sB tB)) := by
  refine q_Con.of RX7 [some (.ref 0), some (.int x)] (by decide +kernel) rfl rfl (Nat.le_of_ble_eq_true rfl) (fun C ad E Z => ?_)
  refine g_iload_1 E dX7_count_0 ?_
  by_cases e_0 : x = 0
  · subst e_0
    refine g_tableIn (off := 55) (tgt := 56) E dX7_count_1 (by decide) (by decide) (by decide) (by decide) ?_
    refine g_aload_0 E dX7_count_56 ?_
    refine g_getR E (by first | assumption | rfl) (by first | assumption | rfl) fl_X7_12 rfl (by first | assumption | rfl) dX7_count_57 ?_
    refine g_getI E (by first | assumption | rfl) (by first | assumption | rfl) fl_X7_75 rfl dX7_count_60 ?_
    exact g_iret E Z dX7_count_63 ⟨_, rfl, ⟨by unfold q_cntX; first | (simp; done) | (simp [*]; done), rfl⟩⟩
  by_cases e_1 : x = 1
  · subst e_1
    refine g_tableIn (off := 63) (tgt := 64) E dX7_count_1 (by decide) (by decide) (by decide) (by decide) ?_
    refine g_aload_0 E dX7_count_64 ?_
    refine g_getR E (by first | assumption | rfl) (by first | assumption | rfl) fl_X7_12 rfl (by first | assumption | rfl) dX7_count_65 ?_
    refine g_getI E (by first | assumption | rfl) (by first | assumption | rfl) fl_X7_57 rfl dX7_count_68 ?_
    exact g_iret E Z dX7_count_71 ⟨_, rfl, ⟨by unfold q_cntX; first | (simp; done) | (simp [*]; done), rfl⟩⟩
  by_cases e_2 : x = 2
  · subst e_2
    refine g_tableIn (off := 71) (tgt := 72) E dX7_count_1 (by decide) (by decide) (by decide) (by decide) ?_
    refine g_aload_0 E dX7_count_72 ?_
    refine g_getR E (by first | assumption | rfl) (by first | assumption | rfl) fl_X7_12 rfl (by first | assumption | rfl) dX7_count_73 ?_
    refine g_getI E (by first | assumption | rfl) (by first | assumption | rfl) fl_X7_60 rfl dX7_count_76 ?_
    exact g_iret E Z dX7_count_79 ⟨_, rfl, ⟨by unfold q_cntX; first | (simp; done) | (simp [*]; done), rfl⟩⟩
  by_cases e_3 : x = 3
  · subst e_3
    refine g_tableIn (off := 79) (tgt := 80) E dX7_count_1 (by decide) (by decide) (by decide) (by decide) ?_
    refine g_aload_0 E dX7_count_80 ?_
    refine g_getR E (by first | assumption | rfl) (by first | assumption | rfl) fl_X7_12 rfl (by first | assumption | rfl) dX7_count_81 ?_
    refine g_getI E (by first | assumption | rfl) (by first | assumption | rfl) fl_X7_63 rfl dX7_count_84 ?_
    exact g_iret E Z dX7_count_87 ⟨_, rfl, ⟨by unfold q_cntX; first | (simp; done) | (simp [*]; done), rfl⟩⟩
  by_cases e_4 : x = 4
  · subst e_4
    refine g_tableIn (off := 87) (tgt := 88) E dX7_count_1 (by decide) (by decide) (by decide) (by decide) ?_
    refine g_aload_0 E dX7_count_88 ?_
    refine g_getR E (by first | assumption | rfl) (by first | assumption | rfl) fl_X7_12 rfl (by first | assumption | rfl) dX7_count_89 ?_
    refine g_getI E (by first | assumption | rfl) (by first | assumption | rfl) fl_X7_66 rfl dX7_count_92 ?_
    exact g_iret E Z dX7_count_95 ⟨_, rfl, ⟨by unfold q_cntX; first | (simp; done) | (simp [*]; done), rfl⟩⟩
  by_cases e_5 : x = 5
  · subst e_5
    refine g_tableIn (off := 95) (tgt := 96) E dX7_count_1 (by decide) (by decide) (by decide) (by decide) ?_
    refine g_aload_0 E dX7_count_96 ?_
    refine g_getI E (by first | assumption | rfl) (by first | assumption | rfl) fl_X7_225 rfl dX7_count_97 ?_
    exact g_iret E Z dX7_count_100 ⟨_, rfl, ⟨by unfold q_cntX; first | (simp; done) | (simp [*]; done), rfl⟩⟩
  by_cases e_6 : x = 6
  · subst e_6
    refine g_tableIn (off := 100) (tgt := 101) E dX7_count_1 (by decide) (by decide) (by decide) (by decide) ?_
    refine g_aload_0 E dX7_count_101 ?_
    refine g_getI E (by first | assumption | rfl) (by first | assumption | rfl) fl_X7_220 rfl dX7_count_102 ?_
    exact g_iret E Z dX7_count_105 ⟨_, rfl, ⟨by unfold q_cntX; first | (simp; done) | (simp [*]; done), rfl⟩⟩
  by_cases e_7 : x = 7
  · subst e_7
    refine g_tableIn (off := 105) (tgt := 106) E dX7_count_1 (by decide) (by decide) (by decide) (by decide) ?_
    refine g_aload_0 E dX7_count_106 ?_
    refine g_getR E (by first | assumption | rfl) (by first | assumption | rfl) fl_X7_33 rfl (by first | assumption | rfl) dX7_count_107 ?_
    refine g_getI E (by first | assumption | rfl) (by first | assumption | rfl) fl_X7_150 rfl dX7_count_110 ?_
    exact g_iret E Z dX7_count_113 ⟨_, rfl, ⟨by unfold q_cntX; first | (simp; done) | (simp [*]; done), rfl⟩⟩
  by_cases e_8 : x = 8
  · subst e_8
    refine g_tableIn (off := 113) (tgt := 114) E dX7_count_1 (by decide) (by decide) (by decide) (by decide) ?_
    refine g_aload_0 E dX7_count_114 ?_
    refine g_getI E (by first | assumption | rfl) (by first | assumption | rfl) fl_X7_143 rfl dX7_count_115 ?_
    exact g_iret E Z dX7_count_118 ⟨_, rfl, ⟨by unfold q_cntX; first | (simp; done) | (simp [*]; done), rfl⟩⟩
  by_cases e_9 : x = 9
  · subst e_9
    refine g_tableIn (off := 118) (tgt := 119) E dX7_count_1 (by decide) (by decide) (by decide) (by decide) ?_
    refine g_aload_0 E dX7_count_119 ?_
    refine g_getR E (by first | assumption | rfl) (by first | assumption | rfl) fl_X7_26 rfl (by first | assumption | rfl) dX7_count_120 ?_
    refine g_cVi0 E (c_X5_placesWithRow) cw_X7_240 (by decide) (by decide) (by first | assumption | rfl) (by first | assumption | rfl) (Nat.le_of_ble_eq_true rfl) dX7_count_123 (fun v_123 h_123 hp => ?_)
    obtain ⟨rfl, rfl⟩ := hp
    exact g_iret E Z dX7_count_126 ⟨_, rfl, ⟨by unfold q_cntX; first | (simp; done) | (simp [*]; done), rfl⟩⟩
  have e_o : x.toInt < 0 ∨ 9 < x.toInt := by
    simp only [q_ieq, Int32.reduceToInt, Int32.toInt_zero] at e_0 e_1 e_2 e_3 e_4 e_5 e_6 e_7 e_8 e_9
    omega
  refine g_tableOut (tgt := 127) E dX7_count_1 e_o (by decide) ?_
  refine g_iconst (v := -1) E dX7_count_127 (by decide) ?_
  exact g_iret E Z dX7_count_128 ⟨_, rfl, ⟨by unfold q_cntX; first | (simp; done) | (simp [*]; done), rfl⟩⟩
set_option maxHeartbeats 4000000 in
set_option maxRecDepth 100000 in
theorem c_X7_gatewayOf {n : Nat} {sB tB : Bool} {f : Nat → Nat → Int32} {g : Nat → Nat → Int64} (hn : f 1 1 = nI n) (h10 : n ≤ 10) (y x : Int32) : q_ConI yX7_gatewayOf cX7_gatewayOf 3 (some .int) 2 45 tyX (alX n sB tB) [.ref 0, .int y, .int x] (f, g, rfX n sB tB) (fun v h' => v = q_gwo (f 9) (f 10) (fun c => f (c + 40) 3) n y x ∧ h' = (f, g, rfX n sB tB)) := by
  refine q_Con.of RX7 [some (.ref 0), some (.int y), some (.int x)] (by decide +kernel) rfl rfl (Nat.le_of_ble_eq_true rfl) (fun C ad E Z => ?_)
  refine g_iload_1 E dX7_gatewayOf_0 ?_
  refine g_cSi1 E (c_X7_isGateway _) cw_X7_71 (by decide) (by decide) (Nat.le_of_ble_eq_true rfl) dX7_gatewayOf_1 (fun v_1 h_1 hp => ?_)
  obtain ⟨rfl, rfl⟩ := hp
  refine g_if_ne (tgt := 10) E dX7_gatewayOf_4 (by decide) (fun c_4 => ?_) (fun c_4 => ?_)
  · have k_4 := q_b1.mp c_4
    obtain ⟨j, hj, rfl⟩ := q_nat (b := 2) k_4.1 k_4.2
    have kS : (nI j).toNatClampNeg = j := nI_clamp (by omega)
    refine g_iload_2 E dX7_gatewayOf_10 ?_
    by_cases e_0 : x = 0
    · subst e_0
      refine g_tableIn (off := 25) (tgt := 36) E dX7_gatewayOf_11 (by decide) (by decide) (by decide) (by decide) ?_
      refine g_aload_0 E dX7_gatewayOf_36 ?_
      refine g_getR E (by first | assumption | rfl) (by first | assumption | rfl) fl_X7_12 rfl (by first | assumption | rfl) dX7_gatewayOf_37 ?_
      refine g_getR E (by first | assumption | rfl) (by first | assumption | rfl) fl_X7_104 rfl (by first | assumption | rfl) dX7_gatewayOf_40 ?_
      refine g_iload_1 E dX7_gatewayOf_43 ?_
      refine g_iald E (by first | assumption | rfl) (by first | assumption | rfl) dX7_gatewayOf_44 (q_ix_n (by omega)) ?_
      exact g_iret E Z dX7_gatewayOf_45 ⟨_, rfl, ⟨by unfold q_gwo; rw [if_neg (not_not_intro k_4), kS]; first | (simp; done) | (simp [*]; done), rfl⟩⟩
    by_cases e_1 : x = 1
    · subst e_1
      refine g_tableIn (off := 35) (tgt := 46) E dX7_gatewayOf_11 (by decide) (by decide) (by decide) (by decide) ?_
      refine g_aload_0 E dX7_gatewayOf_46 ?_
      refine g_getR E (by first | assumption | rfl) (by first | assumption | rfl) fl_X7_12 rfl (by first | assumption | rfl) dX7_gatewayOf_47 ?_
      refine g_getR E (by first | assumption | rfl) (by first | assumption | rfl) fl_X7_107 rfl (by first | assumption | rfl) dX7_gatewayOf_50 ?_
      refine g_iload_1 E dX7_gatewayOf_53 ?_
      first | refine g_zald E (by first | assumption | rfl) (by first | assumption | rfl) dX7_gatewayOf_54 (q_ix_n (by omega)) ?_ | refine g_bald E (by first | assumption | rfl) (by first | assumption | rfl) dX7_gatewayOf_54 (q_ix_n (by omega)) ?_
      refine g_if_eq (tgt := 62) E dX7_gatewayOf_55 (by decide) (fun c_55 => ?_) (fun c_55 => ?_)
      · refine g_iconst (v := 0) E dX7_gatewayOf_62 (by decide) ?_
        exact g_iret E Z dX7_gatewayOf_63 ⟨_, rfl, ⟨by unfold q_gwo; rw [if_neg (not_not_intro k_4), kS]; first | (simp; done) | (simp [*]; done), rfl⟩⟩
      · refine g_iconst (v := 1) E dX7_gatewayOf_58 (by decide) ?_
        refine g_goto (tgt := 63) E dX7_gatewayOf_59 (by decide) ?_
        exact g_iret E Z dX7_gatewayOf_63 ⟨_, rfl, ⟨by unfold q_gwo; rw [if_neg (not_not_intro k_4), kS]; first | (simp; done) | (simp [*]; done), rfl⟩⟩
    by_cases e_2 : x = 2
    · subst e_2
      refine g_tableIn (off := 53) (tgt := 64) E dX7_gatewayOf_11 (by decide) (by decide) (by decide) (by decide) ?_
      refine g_aload_0 E dX7_gatewayOf_64 ?_
      refine g_getR E (by first | assumption | rfl) (by first | assumption | rfl) fl_X7_12 rfl (by first | assumption | rfl) dX7_gatewayOf_65 ?_
      refine g_iload_1 E dX7_gatewayOf_68 ?_
      refine g_cVi1 E (c_X2_cellsOf (by exact hn) h10 _) cw_X7_243 (by decide) (by decide) (by first | assumption | rfl) (by first | assumption | rfl) (Nat.le_of_ble_eq_true rfl) dX7_gatewayOf_69 (fun v_69 h_69 hp => ?_)
      obtain ⟨rfl, rfl⟩ := hp
      exact g_iret E Z dX7_gatewayOf_72 ⟨_, rfl, ⟨by unfold q_gwo; rw [if_neg (not_not_intro k_4), kS]; first | (simp; done) | (simp [*]; done), rfl⟩⟩
    have e_o : x.toInt < 0 ∨ 2 < x.toInt := by
      simp only [q_ieq, Int32.reduceToInt, Int32.toInt_zero] at e_0 e_1 e_2
      omega
    refine g_tableOut (tgt := 73) E dX7_gatewayOf_11 e_o (by decide) ?_
    refine g_bipush (v := -2) E dX7_gatewayOf_73 (by decide) ?_
    exact g_iret E Z dX7_gatewayOf_75 ⟨_, rfl, ⟨by unfold q_gwo; rw [if_neg (not_not_intro k_4), kS]; first | (simp; done) | (simp [*]; done), rfl⟩⟩
  · have k_4 := q_b0.mp c_4
    refine g_bipush (v := -2) E dX7_gatewayOf_7 (by decide) ?_
    exact g_iret E Z dX7_gatewayOf_9 ⟨_, rfl, ⟨by unfold q_gwo; rw [if_pos k_4], rfl⟩⟩
set_option maxHeartbeats 4000000 in
set_option maxRecDepth 100000 in
theorem c_X7_row {n : Nat} {sB tB : Bool} {f : Nat → Nat → Int32} {g : Nat → Nat → Int64} (s u m : Int32) : q_ConI yX7_row cX7_row 4 (some .int) 2 48 tyX (alX n sB tB) [.ref 0, .int s, .int u, .int m] (f, g, rfX n sB tB) (fun v h' => (¬ ((0 ≤ s.toInt ∧ s.toInt ≤ 3) ∧ (0 ≤ u.toInt ∧ u.toInt ≤ 3) ∧ m.toInt ≤ 60) ∧ v = -2 ∧ h' = (f, g, rfX n sB tB)) ∨ (((0 ≤ s.toInt ∧ s.toInt ≤ 3) ∧ (0 ≤ u.toInt ∧ u.toInt ≤ 3) ∧ m.toInt ≤ 60) ∧ m.toInt < 0 ∧ v = -3 ∧ h' = (f, g, rfX n sB tB)) ∨ (∃ S : Nat, S ≤ 3 ∧ s = nI S ∧ (0 ≤ u.toInt ∧ u.toInt ≤ 3) ∧ (0 ≤ m.toInt ∧ m.toInt ≤ 60) ∧ v = 0 ∧ h' = (q_up (q_up f 19 S u) 20 S m, q_fill g (S + 15) 0 60 (fun _ => 0), rfX n sB tB))) := by
  refine q_Con.of RX7 [some (.ref 0), some (.int s), some (.int u), some (.int m)] (by decide +kernel) rfl rfl (Nat.le_of_ble_eq_true rfl) (fun C ad E Z => ?_)
  refine g_aload_0 E dX7_row_0 ?_
  refine g_getR E (by first | assumption | rfl) (by first | assumption | rfl) fl_X7_26 rfl (by first | assumption | rfl) dX7_row_1 ?_
  refine g_iload_1 E dX7_row_4 ?_
  refine g_iload_2 E dX7_row_5 ?_
  refine g_iload_3 E dX7_row_6 ?_
  refine g_cVi3 E (c_X5_lay _ _ _) cw_X7_246 (by decide) (by decide) (by first | assumption | rfl) (by first | assumption | rfl) (Nat.le_of_ble_eq_true rfl) dX7_row_7 (fun v_7 h_7 hp => ?_)
  have hp := hp
  exact g_iret E Z dX7_row_10 ⟨_, rfl, hp⟩
set_option maxHeartbeats 4000000 in
set_option maxRecDepth 100000 in
theorem c_X7_tear {n : Nat} {sB tB : Bool} {f : Nat → Nat → Int32} {g : Nat → Nat → Int64} (s : Int32) : q_ConI yX7_tear cX7_tear 2 (some .boolean) 3 62 tyX (alX n sB tB) [.ref 0, .int s] (f, g, rfX n sB tB) (fun v h' => (∃ S : Nat, S ≤ 3 ∧ s = nI S ∧ ¬ f 20 S = -1 ∧ v = 1 ∧ h' = (q_up f 20 S (-1), g, rfX n sB tB)) ∨ (q_len (f 20) s = -1 ∧ v = 0 ∧ h' = (f, g, rfX n sB tB))) := by
  refine q_Con.of RX7 [some (.ref 0), some (.int s)] (by decide +kernel) rfl rfl (Nat.le_of_ble_eq_true rfl) (fun C ad E Z => ?_)
  refine g_aload_0 E dX7_tear_0 ?_
  refine g_getR E (by first | assumption | rfl) (by first | assumption | rfl) fl_X7_26 rfl (by first | assumption | rfl) dX7_tear_1 ?_
  refine g_iload_1 E dX7_tear_4 ?_
  refine g_cVi1 E (c_X5_clear _) cw_X7_249 (by decide) (by decide) (by first | assumption | rfl) (by first | assumption | rfl) (Nat.le_of_ble_eq_true rfl) dX7_tear_5 (fun v_5 h_5 hp => ?_)
  have hp := hp
  exact g_zret E Z dX7_tear_8 (by rcases hp with ⟨_, _, _, _, rfl, _⟩ | ⟨_, rfl, _⟩ <;> rfl) ⟨_, rfl, hp⟩
set_option maxHeartbeats 4000000 in
set_option maxRecDepth 100000 in
theorem c_X7_write {n : Nat} {sB tB : Bool} {f : Nat → Nat → Int32} {g : Nat → Nat → Int64} (hlen : ∀ S, S ≤ 3 → f 20 S = -1 ∨ ∃ z : Nat, z ≤ 60 ∧ f 20 S = nI z) (s i : Int32) (x : Int64) : q_ConI yX7_write cX7_write 5 (some .int) 2 46 tyX (alX n sB tB) [.ref 0, .int s, .int i, .long x] (f, g, rfX n sB tB) (fun v h' => (¬ (0 ≤ s.toInt ∧ s.toInt ≤ 3) ∧ v = -2 ∧ h' = (f, g, rfX n sB tB)) ∨ (∃ S : Nat, S ≤ 3 ∧ s = nI S ∧ ((f 20 S = -1 ∧ v = -5 ∧ h' = (f, g, rfX n sB tB)) ∨ (¬ f 20 S = -1 ∧ ¬ (0 ≤ i.toInt ∧ i.toInt < (f 20 S).toInt) ∧ v = -6 ∧ h' = (f, g, rfX n sB tB)) ∨ (¬ f 20 S = -1 ∧ ∃ j : Nat, i = nI j ∧ (j : Int) < (f 20 S).toInt ∧ j < 60 ∧ v = 0 ∧ h' = (f, q_up g (S + 15) j (q_cut (f 19 S) x), rfX n sB tB))))) := by
  refine q_Con.of RX7 [some (.ref 0), some (.int s), some (.int i), some (.long x), none] (by decide +kernel) rfl rfl (Nat.le_of_ble_eq_true rfl) (fun C ad E Z => ?_)
  refine g_aload_0 E dX7_write_0 ?_
  refine g_getR E (by first | assumption | rfl) (by first | assumption | rfl) fl_X7_26 rfl (by first | assumption | rfl) dX7_write_1 ?_
  refine g_iload_1 E dX7_write_4 ?_
  refine g_iload_2 E dX7_write_5 ?_
  refine g_lload_3 E dX7_write_6 ?_
  refine g_cVi3 E (c_X5_put (by exact hlen) _ _ _) cw_X7_252 (by decide) (by decide) (by first | assumption | rfl) (by first | assumption | rfl) (Nat.le_of_ble_eq_true rfl) dX7_write_7 (fun v_7 h_7 hp => ?_)
  have hp := hp
  exact g_iret E Z dX7_write_10 ⟨_, rfl, hp⟩
set_option maxHeartbeats 4000000 in
set_option maxRecDepth 100000 in
theorem c_X6_digitAt {n : Nat} {sB tB : Bool} {f : Nat → Nat → Int32} {g : Nat → Nat → Int64} (x : Int32) (ht : tB = true) : q_ConI yX6_digitAt cX6_digitAt 2 (some .int) 0 0 tyX (alX n sB tB) [.ref 6, .int x] (f, g, rfX n sB tB) (fun v h' => v = (if 0 ≤ x.toInt ∧ x.toInt < 72 then f 32 x.toNatClampNeg else 0) ∧ h' = (f, g, rfX n sB tB)) := by
  subst ht
  refine q_Con.of RX6 [some (.ref 6), some (.int x)] (by decide +kernel) rfl rfl (Nat.le_of_ble_eq_true rfl) (fun C ad E Z => ?_)
  have hT6 : alX n sB true 6 = true := by cases sB <;> rfl
  have hT32 : alX n sB true 32 = true := by cases sB <;> rfl
  refine g_iload_1 E dX6_digitAt_0 ?_
  refine g_if_lt (tgt := 19) E dX6_digitAt_1 (by decide) (fun c_1 => ?_) (fun c_1 => ?_)
  · have k_1 := c_1
    simp only [q_ilt, q_ile, q_ieq, Int32.reduceToInt, Int32.toInt_zero] at k_1
    refine g_iconst (v := 0) E dX6_digitAt_19 (by decide) ?_
    exact g_iret E Z dX6_digitAt_20 ⟨_, rfl, ⟨by first | (rw [if_neg (by omega)]; done) | (rw [if_pos (by omega), kj]; done), rfl⟩⟩
  · have k_1 := c_1
    simp only [q_ilt, q_ile, q_ieq, Int32.reduceToInt, Int32.toInt_zero] at k_1
    refine g_iload_1 E dX6_digitAt_4 ?_
    refine g_bipush (v := 72) E dX6_digitAt_5 (by decide) ?_
    refine g_icmp_ge (tgt := 19) E dX6_digitAt_7 (by decide) (fun c_7 => ?_) (fun c_7 => ?_)
    · have k_7 := c_7
      simp only [q_ilt, q_ile, q_ieq, Int32.reduceToInt, Int32.toInt_zero] at k_7
      refine g_iconst (v := 0) E dX6_digitAt_19 (by decide) ?_
      exact g_iret E Z dX6_digitAt_20 ⟨_, rfl, ⟨by first | (rw [if_neg (by omega)]; done) | (rw [if_pos (by omega), kj]; done), rfl⟩⟩
    · have k_7 := c_7
      simp only [q_ilt, q_ile, q_ieq, Int32.reduceToInt, Int32.toInt_zero] at k_7
      obtain ⟨j, hj, rfl⟩ := q_nat (b := 71) (x := x) (by omega) (by omega)
      have kj : (nI j).toNatClampNeg = j := nI_clamp (by omega)
      refine g_aload_0 E dX6_digitAt_10 ?_
      refine g_getR E (by first | assumption | rfl) (by first | assumption | rfl) fl_X6_25 rfl (by first | assumption | rfl) dX6_digitAt_11 ?_
      refine g_iload_1 E dX6_digitAt_14 ?_
      first | refine g_zald E (by first | assumption | rfl) (by first | assumption | rfl) dX6_digitAt_15 (q_ix_n (by omega)) ?_ | refine g_bald E (by first | assumption | rfl) (by first | assumption | rfl) dX6_digitAt_15 (q_ix_n (by omega)) ?_
      refine g_goto (tgt := 20) E dX6_digitAt_16 (by decide) ?_
      exact g_iret E Z dX6_digitAt_20 ⟨_, rfl, ⟨by first | (rw [if_neg (by omega)]; done) | (rw [if_pos (by omega), kj]; done), rfl⟩⟩
set_option maxHeartbeats 4000000 in
set_option maxRecDepth 100000 in
theorem c_X7_digit {n : Nat} {sB tB : Bool} {f : Nat → Nat → Int32} {g : Nat → Nat → Int64} (x : Int32) : q_ConI yX7_digit cX7_digit 2 (some .int) 1 21 tyX (alX n sB tB) [.ref 0, .int x] (f, g, rfX n sB tB) (fun v h' => v = (if x.toInt < 0 then -2 else if tB = true then (if 0 ≤ x.toInt ∧ x.toInt < 72 then f 32 x.toNatClampNeg else 0) else 0) ∧ h' = (f, g, rfX n sB tB)) := by
  refine q_Con.of RX7 [some (.ref 0), some (.int x)] (by decide +kernel) rfl rfl (Nat.le_of_ble_eq_true rfl) (fun C ad E Z => ?_)
  cases tB with
  | false =>
    refine g_iload_1 E dX7_digit_0 ?_
    refine g_if_ge (tgt := 7) E dX7_digit_1 (by decide) (fun c_1 => ?_) (fun c_1 => ?_)
    · have k_1 := c_1
      simp only [q_ilt, q_ile, q_ieq, Int32.reduceToInt, Int32.toInt_zero] at k_1
      refine g_aload_0 E dX7_digit_7 ?_
      refine g_getN E (by first | assumption | rfl) (by first | assumption | rfl) fl_X7_203 rfl rfl dX7_digit_8 ?_
      refine g_ifnonnullN E dX7_digit_11 ?_
      refine g_iconst (v := 0) E dX7_digit_14 (by decide) ?_
      refine g_goto (tgt := 26) E dX7_digit_15 (by decide) ?_
      exact g_iret E Z dX7_digit_26 ⟨_, rfl, ⟨by rw [if_neg (by omega)]; rfl, rfl⟩⟩
    · have k_1 := c_1
      simp only [q_ilt, q_ile, q_ieq, Int32.reduceToInt, Int32.toInt_zero] at k_1
      refine g_bipush (v := -2) E dX7_digit_4 (by decide) ?_
      exact g_iret E Z dX7_digit_6 ⟨_, rfl, ⟨by rw [if_pos (by omega)], rfl⟩⟩
  | true =>
    have hT6 : alX n sB true 6 = true := by cases sB <;> rfl
    refine g_iload_1 E dX7_digit_0 ?_
    refine g_if_ge (tgt := 7) E dX7_digit_1 (by decide) (fun c_1 => ?_) (fun c_1 => ?_)
    · have k_1 := c_1
      simp only [q_ilt, q_ile, q_ieq, Int32.reduceToInt, Int32.toInt_zero] at k_1
      refine g_aload_0 E dX7_digit_7 ?_
      refine g_getR E (by first | assumption | rfl) (by first | assumption | rfl) fl_X7_203 rfl (by first | assumption | rfl) dX7_digit_8 ?_
      refine g_ifnonnull (tgt := 18) E dX7_digit_11 (by decide) ?_
      refine g_aload_0 E dX7_digit_18 ?_
      refine g_getR E (by first | assumption | rfl) (by first | assumption | rfl) fl_X7_203 rfl (by first | assumption | rfl) dX7_digit_19 ?_
      refine g_iload_1 E dX7_digit_22 ?_
      refine g_cVi1 E (c_X6_digitAt _ rfl) cw_X7_217 (by decide) (by decide) (by first | assumption | rfl) (by first | assumption | rfl) (Nat.le_of_ble_eq_true rfl) dX7_digit_23 (fun v_23 h_23 hp => ?_)
      obtain ⟨rfl, rfl⟩ := hp
      exact g_iret E Z dX7_digit_26 ⟨_, rfl, ⟨by rw [if_neg (show ¬ x.toInt < 0 by omega), if_pos rfl], rfl⟩⟩
    · have k_1 := c_1
      simp only [q_ilt, q_ile, q_ieq, Int32.reduceToInt, Int32.toInt_zero] at k_1
      refine g_bipush (v := -2) E dX7_digit_4 (by decide) ?_
      exact g_iret E Z dX7_digit_6 ⟨_, rfl, ⟨by rw [if_pos (by omega)], rfl⟩⟩
theorem q_cells_s {f : Nat → Nat → Int32} {i k : Nat} {r : Nat → Int32} : q_up (fun a => if 40 ≤ a ∧ a < i + 40 then va_up (f a) k (r (a - 40)) else f a) (i + 40) k (r i) = (fun a => if 40 ≤ a ∧ a < i + 1 + 40 then va_up (f a) k (r (a - 40)) else f a) := by
  funext a
  by_cases e : a = i + 40
  · subst e
    rw [q_up_eq]
    rw [if_neg (by omega), if_pos (by omega), Nat.add_sub_cancel]
  · rw [q_up_ne e]
    by_cases e2 : 40 ≤ a ∧ a < i + 40
    · rw [if_pos e2, if_pos (by omega)]
    · rw [if_neg e2, if_neg (by omega)]
theorem q_rfX_0 {ln : Nat → Int32} {nb : Nat → Nat → Int64} {m : Nat} {s : Int32} {top : Int} (hlen : ∀ S, S ≤ 3 → ln S = -1 ∨ ∃ z : Nat, z ≤ 60 ∧ ln S = nI z) (hm : m ≤ 10) (h : q_rfX ln nb m s top = 0) : ∃ S z : Nat, S ≤ 3 ∧ s = nI S ∧ z ≤ 60 ∧ ln S = nI z ∧ m ≤ z := by
  unfold q_rfX at h
  by_cases h1 : 0 ≤ s.toInt ∧ s.toInt ≤ 3
  · obtain ⟨S, hS, rfl⟩ := q_nat (b := 3) h1.1 h1.2
    have kS : (nI S).toNatClampNeg = S := nI_clamp (by omega)
    rw [if_neg (not_not_intro h1), kS] at h
    rcases hlen S hS with e | ⟨z, hz, ez⟩
    · rw [if_pos e] at h; exact absurd h (by decide)
    · by_cases h2 : ln S = -1
      · rw [if_pos h2] at h; exact absurd h (by decide)
      · rw [if_neg h2] at h
        by_cases h3 : ln S < nI m
        · rw [if_pos h3] at h; exact absurd h (by decide)
        · refine ⟨S, z, hS, rfl, hz, ez, ?_⟩
          rw [ez] at h3
          rcases Nat.lt_or_ge z m with q | q
          · exact absurd (nI_lt q (by omega)) h3
          · exact q
  · rw [if_pos h1] at h; exact absurd h (by decide)
theorem c_X5_refusalE {n : Nat} {sB tB : Bool} {f : Nat → Nat → Int32} {g : Nat → Nat → Int64} (hlen : ∀ S, S ≤ 3 → f 20 S = -1 ∨ ∃ z : Nat, z ≤ 60 ∧ f 20 S = nI z) (s : Int32) (m : Nat) (hm : m ≤ 60) (t q : Int32) (e : q = nI m) : q_ConI yX5_refusal cX5_refusal 4 (some .int) 4 87 tyX (alX n sB tB) [.ref 3, .int s, .int q, .int t] (f, g, rfX n sB tB) (fun v h' => v = q_rfX (f 20) (q_nbX g) m s t.toInt ∧ h' = (f, g, rfX n sB tB)) := by
  subst e
  exact c_X5_refusal hlen s m hm t
set_option maxHeartbeats 4000000 in
set_option maxRecDepth 100000 in
theorem c_X7_needs {n : Nat} {sB tB : Bool} {f : Nat → Nat → Int32} {g : Nat → Nat → Int64} (hn : f 1 1 = nI n) (h10 : n ≤ 10) (hlen : ∀ S, S ≤ 3 → f 20 S = -1 ∨ ∃ z : Nat, z ≤ 60 ∧ f 20 S = nI z) (s : Int32) : q_ConI yX7_needs cX7_needs 6 (some .int) 5 110 tyX (alX n sB tB) [.ref 0, .int s] (f, g, rfX n sB tB) (fun v h' => (¬ q_rfX (f 20) (q_nbX g) n s 9 = 0 ∧ v = q_rfX (f 20) (q_nbX g) n s 9 ∧ h' = (f, g, rfX n sB tB)) ∨ (q_rfX (f 20) (q_nbX g) n s 9 = 0 ∧ v = q_sum (fun c => (q_nbX g s.toNatClampNeg c).toInt32) n ∧ h' = (fun a => if 40 ≤ a ∧ a < n + 40 then va_up (f a) 5 (q_nbX g s.toNatClampNeg (a - 40)).toInt32 else f a, g, rfX n sB tB))) := by
  refine q_Con.of RX7 [some (.ref 0), some (.int s), none, none, none, none] (by decide +kernel) rfl rfl (Nat.le_of_ble_eq_true rfl) (fun C ad E Z => ?_)
  have L : q_rfX (f 20) (q_nbX g) n s 9 = 0 → ∀ i, i ≤ n → ∀ x5 : Option Value, gg C tyX 6 0 0 (alX n sB tB) ad 29 [some (.ref 0), some (.int s), some (.int 0), some (.int (q_sum (fun c => (q_nbX g s.toNatClampNeg c).toInt32) i)), some (.int (nI i)), x5] [] ((fun a => if 40 ≤ a ∧ a < i + 40 then va_up (f a) 5 (q_nbX g s.toNatClampNeg (a - 40)).toInt32 else f a), g, rfX n sB tB) := by
    intro hr0
    obtain ⟨S, z, hS, es, hz, ez, hnz⟩ := q_rfX_0 hlen h10 hr0
    subst es
    have kS : (nI S).toNatClampNeg = S := nI_clamp (by omega)
    rw [kS]
    refine q_loop n (fun i hi ih x5 => ?_)
    have hn1 : (fun a => if 40 ≤ a ∧ a < i + 40 then va_up (f a) 5 (q_nbX g S (a - 40)).toInt32 else f a) 1 1 = nI n := hn
    have hlen1 : ∀ S', S' ≤ 3 → (fun a => if 40 ≤ a ∧ a < i + 40 then va_up (f a) 5 (q_nbX g S (a - 40)).toInt32 else f a) 20 S' = -1 ∨ ∃ z : Nat, z ≤ 60 ∧ (fun a => if 40 ≤ a ∧ a < i + 40 then va_up (f a) 5 (q_nbX g S (a - 40)).toInt32 else f a) 20 S' = nI z := hlen
    refine g_iload_4 E dX7_needs_29 ?_
    refine g_aload_0 E dX7_needs_31 ?_
    refine g_getR E (by first | assumption | rfl) (by first | assumption | rfl) fl_X7_12 rfl (by first | assumption | rfl) dX7_needs_32 ?_
    refine g_getI E (by first | assumption | rfl) (by first | assumption | rfl) fl_X7_75 rfl dX7_needs_35 ?_
    refine g_icmp_ge (tgt := 80) E dX7_needs_38 (by decide) (fun c_38 => ?_) (fun c_38 => ?_)
    · have e_38 := (q_ge (x := n) (y := i) hn1 rfl (by omega) (by omega)).mp c_38
      refine g_iload_3 E dX7_needs_80 ?_
      exact g_iret E Z dX7_needs_81 ⟨_, rfl, Or.inr ⟨hr0, (by rw [kS, show i = n by omega]), (by rw [kS, show i = n by omega])⟩⟩
    · have e_38 := (not_congr (q_ge (x := n) (y := i) hn1 rfl (by omega) (by omega))).mp c_38
      have hac : alX n sB tB (i + 40) = true := alX_c (by omega)
      have htc : tyX (i + 40) = .inr 0 := tyX_c (by omega)
      have hrc : rfX n sB tB 8 i = some (i + 40) := rfX_c (by omega)
      refine g_aload_0 E dX7_needs_41 ?_
      refine g_getR E (by first | assumption | rfl) (by first | assumption | rfl) fl_X7_26 rfl (by first | assumption | rfl) dX7_needs_42 ?_
      refine g_iload_1 E dX7_needs_45 ?_
      refine g_iload_4 E dX7_needs_46 ?_
      refine g_cVl2 E (c_X5_number (by exact hlen1) _ _) cw_X7_121 (by decide) (by decide) (by first | assumption | rfl) (by first | assumption | rfl) (Nat.le_of_ble_eq_true rfl) dX7_needs_48 (fun v_48 h_48 hp => ?_)
      obtain ⟨rfl, rfl⟩ := hp
      rw [show q_num ((fun a => if 40 ≤ a ∧ a < i + 40 then va_up (f a) 5 (q_nbX g S (a - 40)).toInt32 else f a) 20) (q_nbX g) (nI S) (nI i) = q_nbX g S i from q_num_in hS hz ez (by omega)]
      refine g_l2i E dX7_needs_51 ?_
      refine g_istore_5 E dX7_needs_52 (by decide) rfl ?_
      refine g_aload_0 E dX7_needs_54 ?_
      refine g_getR E (by first | assumption | rfl) (by first | assumption | rfl) fl_X7_12 rfl (by first | assumption | rfl) dX7_needs_55 ?_
      refine g_getR E (by first | assumption | rfl) (by first | assumption | rfl) fl_X7_78 rfl (by first | assumption | rfl) dX7_needs_58 ?_
      refine g_iload_4 E dX7_needs_61 ?_
      first | refine g_aald E (by first | assumption | rfl) (by first | assumption | rfl) dX7_needs_63 (q_ix_n (by omega)) (by first | assumption | rfl) ?_ | refine g_aaldJ E (by first | assumption | rfl) (by first | assumption | rfl) dX7_needs_63 (q_ix_n (by omega)) (by first | assumption | rfl) ?_
      refine g_iload_5 E dX7_needs_64 ?_
      refine g_putI E (by first | assumption | rfl) (by first | assumption | rfl) fw_X7_125 rfl dX7_needs_66 ?_
      refine g_iload_3 E dX7_needs_69 ?_
      refine g_iload_5 E dX7_needs_70 ?_
      refine g_iadd E dX7_needs_72 ?_
      refine g_istore_3 E dX7_needs_73 (by decide) rfl ?_
      refine g_iinc_4 (u := 1) E dX7_needs_74 (by decide) (by decide) rfl ?_
      refine g_goto (tgt := 29) E dX7_needs_77 (by decide) ?_
      rw [nI_1, q_cells_s (r := fun c => (q_nbX g S c).toInt32)]
      exact ih (by omega) _
  refine g_aload_0 E dX7_needs_0 ?_
  refine g_getR E (by first | assumption | rfl) (by first | assumption | rfl) fl_X7_26 rfl (by first | assumption | rfl) dX7_needs_1 ?_
  refine g_iload_1 E dX7_needs_4 ?_
  refine g_aload_0 E dX7_needs_5 ?_
  refine g_getR E (by first | assumption | rfl) (by first | assumption | rfl) fl_X7_12 rfl (by first | assumption | rfl) dX7_needs_6 ?_
  refine g_getI E (by first | assumption | rfl) (by first | assumption | rfl) fl_X7_75 rfl dX7_needs_9 ?_
  refine g_bipush (v := 9) E dX7_needs_12 (by decide) ?_
  refine g_cVi3 E (c_X5_refusalE (by exact hlen) _ n (by omega) _ _ hn) cw_X7_117 (by decide) (by decide) (by first | assumption | rfl) (by first | assumption | rfl) (Nat.le_of_ble_eq_true rfl) dX7_needs_14 (fun v_14 h_14 hp => ?_)
  obtain ⟨rfl, rfl⟩ := hp
  rw [show Int32.toInt 9 = 9 from by decide]
  refine g_istore_2 E dX7_needs_17 (by decide) rfl ?_
  refine g_iload_2 E dX7_needs_18 ?_
  refine g_if_eq (tgt := 24) E dX7_needs_19 (by decide) (fun c_19 => ?_) (fun c_19 => ?_)
  · refine g_iconst (v := 0) E dX7_needs_24 (by decide) ?_
    refine g_istore_3 E dX7_needs_25 (by decide) rfl ?_
    refine g_iconst (v := 0) E dX7_needs_26 (by decide) ?_
    refine g_istore_4 E dX7_needs_27 (by decide) rfl ?_
    have e := L c_19 0 (Nat.zero_le _) none
    rw [show (fun a => if 40 ≤ a ∧ a < 0 + 40 then va_up (f a) 5 (q_nbX g s.toNatClampNeg (a - 40)).toInt32 else f a) = f from funext (fun a => if_neg (by omega))] at e
    rw [c_19]
    exact e
  · refine g_iload_2 E dX7_needs_22 ?_
    exact g_iret E Z dX7_needs_23 ⟨_, rfl, Or.inl ⟨c_19, rfl, rfl⟩⟩
set_option maxHeartbeats 4000000 in
set_option maxRecDepth 100000 in
theorem c_X7_asks {n : Nat} {sB tB : Bool} {f : Nat → Nat → Int32} {g : Nat → Nat → Int64} (hn : f 1 1 = nI n) (h10 : n ≤ 10) (hlen : ∀ S, S ≤ 3 → f 20 S = -1 ∨ ∃ z : Nat, z ≤ 60 ∧ f 20 S = nI z) (s : Int32) : q_ConI yX7_asks cX7_asks 6 (some .int) 5 110 tyX (alX n sB tB) [.ref 0, .int s] (f, g, rfX n sB tB) (fun v h' => (¬ q_rfX (f 20) (q_nbX g) n s 1000 = 0 ∧ v = q_rfX (f 20) (q_nbX g) n s 1000 ∧ h' = (f, g, rfX n sB tB)) ∨ (q_rfX (f 20) (q_nbX g) n s 1000 = 0 ∧ v = q_sum (fun c => (q_nbX g s.toNatClampNeg c).toInt32) n ∧ h' = (fun a => if 40 ≤ a ∧ a < n + 40 then va_up (f a) 6 (q_nbX g s.toNatClampNeg (a - 40)).toInt32 else f a, g, rfX n sB tB))) := by
  refine q_Con.of RX7 [some (.ref 0), some (.int s), none, none, none, none] (by decide +kernel) rfl rfl (Nat.le_of_ble_eq_true rfl) (fun C ad E Z => ?_)
  have L : q_rfX (f 20) (q_nbX g) n s 1000 = 0 → ∀ i, i ≤ n → ∀ x5 : Option Value, gg C tyX 6 0 0 (alX n sB tB) ad 30 [some (.ref 0), some (.int s), some (.int 0), some (.int (q_sum (fun c => (q_nbX g s.toNatClampNeg c).toInt32) i)), some (.int (nI i)), x5] [] ((fun a => if 40 ≤ a ∧ a < i + 40 then va_up (f a) 6 (q_nbX g s.toNatClampNeg (a - 40)).toInt32 else f a), g, rfX n sB tB) := by
    intro hr0
    obtain ⟨S, z, hS, es, hz, ez, hnz⟩ := q_rfX_0 hlen h10 hr0
    subst es
    have kS : (nI S).toNatClampNeg = S := nI_clamp (by omega)
    rw [kS]
    refine q_loop n (fun i hi ih x5 => ?_)
    have hn1 : (fun a => if 40 ≤ a ∧ a < i + 40 then va_up (f a) 6 (q_nbX g S (a - 40)).toInt32 else f a) 1 1 = nI n := hn
    have hlen1 : ∀ S', S' ≤ 3 → (fun a => if 40 ≤ a ∧ a < i + 40 then va_up (f a) 6 (q_nbX g S (a - 40)).toInt32 else f a) 20 S' = -1 ∨ ∃ z : Nat, z ≤ 60 ∧ (fun a => if 40 ≤ a ∧ a < i + 40 then va_up (f a) 6 (q_nbX g S (a - 40)).toInt32 else f a) 20 S' = nI z := hlen
    refine g_iload_4 E dX7_asks_30 ?_
    refine g_aload_0 E dX7_asks_32 ?_
    refine g_getR E (by first | assumption | rfl) (by first | assumption | rfl) fl_X7_12 rfl (by first | assumption | rfl) dX7_asks_33 ?_
    refine g_getI E (by first | assumption | rfl) (by first | assumption | rfl) fl_X7_75 rfl dX7_asks_36 ?_
    refine g_icmp_ge (tgt := 81) E dX7_asks_39 (by decide) (fun c_39 => ?_) (fun c_39 => ?_)
    · have e_39 := (q_ge (x := n) (y := i) hn1 rfl (by omega) (by omega)).mp c_39
      refine g_iload_3 E dX7_asks_81 ?_
      exact g_iret E Z dX7_asks_82 ⟨_, rfl, Or.inr ⟨hr0, (by rw [kS, show i = n by omega]), (by rw [kS, show i = n by omega])⟩⟩
    · have e_39 := (not_congr (q_ge (x := n) (y := i) hn1 rfl (by omega) (by omega))).mp c_39
      have hac : alX n sB tB (i + 40) = true := alX_c (by omega)
      have htc : tyX (i + 40) = .inr 0 := tyX_c (by omega)
      have hrc : rfX n sB tB 8 i = some (i + 40) := rfX_c (by omega)
      refine g_aload_0 E dX7_asks_42 ?_
      refine g_getR E (by first | assumption | rfl) (by first | assumption | rfl) fl_X7_26 rfl (by first | assumption | rfl) dX7_asks_43 ?_
      refine g_iload_1 E dX7_asks_46 ?_
      refine g_iload_4 E dX7_asks_47 ?_
      refine g_cVl2 E (c_X5_number (by exact hlen1) _ _) cw_X7_121 (by decide) (by decide) (by first | assumption | rfl) (by first | assumption | rfl) (Nat.le_of_ble_eq_true rfl) dX7_asks_49 (fun v_49 h_49 hp => ?_)
      obtain ⟨rfl, rfl⟩ := hp
      rw [show q_num ((fun a => if 40 ≤ a ∧ a < i + 40 then va_up (f a) 6 (q_nbX g S (a - 40)).toInt32 else f a) 20) (q_nbX g) (nI S) (nI i) = q_nbX g S i from q_num_in hS hz ez (by omega)]
      refine g_l2i E dX7_asks_52 ?_
      refine g_istore_5 E dX7_asks_53 (by decide) rfl ?_
      refine g_aload_0 E dX7_asks_55 ?_
      refine g_getR E (by first | assumption | rfl) (by first | assumption | rfl) fl_X7_12 rfl (by first | assumption | rfl) dX7_asks_56 ?_
      refine g_getR E (by first | assumption | rfl) (by first | assumption | rfl) fl_X7_78 rfl (by first | assumption | rfl) dX7_asks_59 ?_
      refine g_iload_4 E dX7_asks_62 ?_
      first | refine g_aald E (by first | assumption | rfl) (by first | assumption | rfl) dX7_asks_64 (q_ix_n (by omega)) (by first | assumption | rfl) ?_ | refine g_aaldJ E (by first | assumption | rfl) (by first | assumption | rfl) dX7_asks_64 (q_ix_n (by omega)) (by first | assumption | rfl) ?_
      refine g_iload_5 E dX7_asks_65 ?_
      refine g_putI E (by first | assumption | rfl) (by first | assumption | rfl) fw_X7_128 rfl dX7_asks_67 ?_
      refine g_iload_3 E dX7_asks_70 ?_
      refine g_iload_5 E dX7_asks_71 ?_
      refine g_iadd E dX7_asks_73 ?_
      refine g_istore_3 E dX7_asks_74 (by decide) rfl ?_
      refine g_iinc_4 (u := 1) E dX7_asks_75 (by decide) (by decide) rfl ?_
      refine g_goto (tgt := 30) E dX7_asks_78 (by decide) ?_
      rw [nI_1, q_cells_s (r := fun c => (q_nbX g S c).toInt32)]
      exact ih (by omega) _
  refine g_aload_0 E dX7_asks_0 ?_
  refine g_getR E (by first | assumption | rfl) (by first | assumption | rfl) fl_X7_26 rfl (by first | assumption | rfl) dX7_asks_1 ?_
  refine g_iload_1 E dX7_asks_4 ?_
  refine g_aload_0 E dX7_asks_5 ?_
  refine g_getR E (by first | assumption | rfl) (by first | assumption | rfl) fl_X7_12 rfl (by first | assumption | rfl) dX7_asks_6 ?_
  refine g_getI E (by first | assumption | rfl) (by first | assumption | rfl) fl_X7_75 rfl dX7_asks_9 ?_
  refine g_sipush (v := 1000) E dX7_asks_12 (by decide) ?_
  refine g_cVi3 E (c_X5_refusalE (by exact hlen) _ n (by omega) _ _ hn) cw_X7_117 (by decide) (by decide) (by first | assumption | rfl) (by first | assumption | rfl) (Nat.le_of_ble_eq_true rfl) dX7_asks_15 (fun v_15 h_15 hp => ?_)
  obtain ⟨rfl, rfl⟩ := hp
  rw [show Int32.toInt 1000 = 1000 from by decide]
  refine g_istore_2 E dX7_asks_18 (by decide) rfl ?_
  refine g_iload_2 E dX7_asks_19 ?_
  refine g_if_eq (tgt := 25) E dX7_asks_20 (by decide) (fun c_20 => ?_) (fun c_20 => ?_)
  · refine g_iconst (v := 0) E dX7_asks_25 (by decide) ?_
    refine g_istore_3 E dX7_asks_26 (by decide) rfl ?_
    refine g_iconst (v := 0) E dX7_asks_27 (by decide) ?_
    refine g_istore_4 E dX7_asks_28 (by decide) rfl ?_
    have e := L c_20 0 (Nat.zero_le _) none
    rw [show (fun a => if 40 ≤ a ∧ a < 0 + 40 then va_up (f a) 6 (q_nbX g s.toNatClampNeg (a - 40)).toInt32 else f a) = f from funext (fun a => if_neg (by omega))] at e
    rw [c_20]
    exact e
  · refine g_iload_2 E dX7_asks_23 ?_
    exact g_iret E Z dX7_asks_24 ⟨_, rfl, Or.inl ⟨c_20, rfl, rfl⟩⟩
