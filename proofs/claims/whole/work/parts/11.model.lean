/-! the reference: its small methods -/
theorem c_X8_inI {ty : Nat → PT} {al : Nat → Bool} {h : PH} (x : Int32) (lo hi : Int64) (a b : Int) (ha : lo.toInt = a) (hb : hi.toInt = b) : q_ConI yX8_in cX8_in 6 (some .boolean) 0 0 ty al [.long x.toInt64, .long lo, .long hi] h (fun r h' => r = q_b (a ≤ x.toInt ∧ x.toInt ≤ b) ∧ h' = h) := by
  have k := c_X8_in (ty := ty) (al := al) (h := h) x.toInt64 lo hi
  rw [q_32, ha, hb] at k
  exact k
theorem c_X7_isWithinI {ty : Nat → PT} {al : Nat → Bool} {h : PH} (x : Int32) (lo hi : Int64) (a b : Int) (ha : lo.toInt = a) (hb : hi.toInt = b) : q_ConI yX7_isWithin cX7_isWithin 6 (some .boolean) 0 0 ty al [.long x.toInt64, .long lo, .long hi] h (fun r h' => r = q_b (a ≤ x.toInt ∧ x.toInt ≤ b) ∧ h' = h) := by
  have k := c_X7_isWithin (ty := ty) (al := al) (h := h) x.toInt64 lo hi
  rw [q_32, ha, hb] at k
  exact k
theorem q_pred {n : Nat} (h : n < 1000) : (nI n - 1).toInt = (n : Int) - 1 := pk_sub_toInt (a := n) (b := 1) (by omega) (by omega)
def q_cut (u : Int32) (v : Int64) : Int64 := if u = 0 then v.toInt32.toInt8.toInt32.toInt64 else if u = 1 then v.toInt32.toInt16.toInt32.toInt64 else if u = 2 then v.toInt32.toInt64 else v
set_option maxHeartbeats 4000000 in
set_option maxRecDepth 100000 in
theorem c_X8_cut {ty : Nat → PT} {al : Nat → Bool} {h : PH} (u : Int32) (v : Int64) : q_ConL yX8_cut cX8_cut 3 (some .long) 0 0 ty al [.int u, .long v] h (fun r h' => r = q_cut u v ∧ h' = h) := by
  refine q_Con.of RX8 [some (.int u), some (.long v), none] (by decide +kernel) rfl rfl (Nat.le_of_ble_eq_true rfl) (fun C ad E Z => ?_)
  refine g_iload_0 E dX8_cut_0 ?_
  refine g_if_ne (tgt := 11) E dX8_cut_1 (by decide) (fun c_1 => ?_) (fun c_1 => ?_)
  · refine g_iload_0 E dX8_cut_11 ?_
    refine g_iconst (v := 1) E dX8_cut_12 (by decide) ?_
    refine g_icmp_ne (tgt := 23) E dX8_cut_13 (by decide) (fun c_13 => ?_) (fun c_13 => ?_)
    · refine g_iload_0 E dX8_cut_23 ?_
      refine g_iconst (v := 2) E dX8_cut_24 (by decide) ?_
      refine g_icmp_ne (tgt := 34) E dX8_cut_25 (by decide) (fun c_25 => ?_) (fun c_25 => ?_)
      · refine g_lload_1 E dX8_cut_34 ?_
        exact g_lret E Z dX8_cut_35 ⟨_, rfl, ⟨by unfold q_cut; simp [*], rfl⟩⟩
      · refine g_lload_1 E dX8_cut_28 ?_
        refine g_l2i E dX8_cut_29 ?_
        refine g_i2l E dX8_cut_30 ?_
        refine g_goto (tgt := 35) E dX8_cut_31 (by decide) ?_
        exact g_lret E Z dX8_cut_35 ⟨_, rfl, ⟨by unfold q_cut; simp [*], rfl⟩⟩
    · refine g_lload_1 E dX8_cut_16 ?_
      refine g_l2i E dX8_cut_17 ?_
      refine g_i2s E dX8_cut_18 ?_
      refine g_i2l E dX8_cut_19 ?_
      refine g_goto (tgt := 35) E dX8_cut_20 (by decide) ?_
      exact g_lret E Z dX8_cut_35 ⟨_, rfl, ⟨by unfold q_cut; simp [*], rfl⟩⟩
  · refine g_lload_1 E dX8_cut_4 ?_
    refine g_l2i E dX8_cut_5 ?_
    refine g_i2b E dX8_cut_6 ?_
    refine g_i2l E dX8_cut_7 ?_
    refine g_goto (tgt := 35) E dX8_cut_8 (by decide) ?_
    exact g_lret E Z dX8_cut_35 ⟨_, rfl, ⟨by unfold q_cut; simp [*], rfl⟩⟩
set_option maxHeartbeats 4000000 in
set_option maxRecDepth 100000 in
theorem c_X8_isCell {f : Nat → Nat → Int32} {g : Nat → Nat → Int64} (n : Nat) (hn : f 0 5 = nI n) (h10 : n ≤ 10) (x : Int32) : q_ConI yX8_isCell cX8_isCell 2 (some .boolean) 1 25 tyM alM [.ref 0, .int x] (f, g, rfM) (fun r h' => r = q_b (0 ≤ x.toInt ∧ x.toInt < n) ∧ h' = (f, g, rfM)) := by
  refine q_Con.of RX8 [some (.ref 0), some (.int x)] (by decide +kernel) rfl rfl (Nat.le_of_ble_eq_true rfl) (fun C ad E Z => ?_)
  refine g_iload_1 E dX8_isCell_0 ?_
  refine g_i2l E dX8_isCell_1 ?_
  refine g_lconst (v := 0) E dX8_isCell_2 (by decide) ?_
  refine g_aload_0 E dX8_isCell_3 ?_
  refine g_getI E (by first | rfl | assumption) (by first | rfl | assumption) fl_X8_154 rfl dX8_isCell_4 ?_
  refine g_iconst (v := 1) E dX8_isCell_7 (by decide) ?_
  refine g_isub E dX8_isCell_8 ?_
  refine g_i2l E dX8_isCell_9 ?_
  refine g_cSi3 E (c_X8_in _ _ _) cw_X8_142 (by decide) (by decide) (by decide) dX8_isCell_10 (fun v_10 h_10 hp => ?_)
  obtain ⟨rfl, rfl⟩ := hp
  exact g_zret E Z dX8_isCell_13 q_bn ⟨_, rfl, ⟨q_bi (by rw [q_32, q_32, hn, q_pred (by omega)]; show (0 : Int) ≤ _ ∧ _ ↔ _; omega), rfl⟩⟩
theorem q_pow : ∀ n, n < 11 → ((1 : Int64) <<< ((nI n).toInt64 &&& 63) - 1).toInt = 2 ^ n - 1 := by decide +kernel
set_option maxHeartbeats 4000000 in
set_option maxRecDepth 100000 in
theorem c_X8_isSet {f : Nat → Nat → Int32} {g : Nat → Nat → Int64} (n : Nat) (hn : f 0 5 = nI n) (h10 : n ≤ 10) (x : Int64) : q_ConI yX8_isSet cX8_isSet 3 (some .boolean) 1 25 tyM alM [.ref 0, .long x] (f, g, rfM) (fun r h' => r = q_b (0 ≤ x.toInt ∧ x.toInt < 2 ^ n) ∧ h' = (f, g, rfM)) := by
  refine q_Con.of RX8 [some (.ref 0), some (.long x), none] (by decide +kernel) rfl rfl (Nat.le_of_ble_eq_true rfl) (fun C ad E Z => ?_)
  refine g_lload_1 E dX8_isSet_0 ?_
  refine g_lconst (v := 0) E dX8_isSet_1 (by decide) ?_
  refine g_lconst (v := 1) E dX8_isSet_2 (by decide) ?_
  refine g_aload_0 E dX8_isSet_3 ?_
  refine g_getI E (by first | rfl | assumption) (by first | rfl | assumption) fl_X8_154 rfl dX8_isSet_4 ?_
  refine g_lshl E dX8_isSet_7 ?_
  refine g_lconst (v := 1) E dX8_isSet_8 (by decide) ?_
  refine g_lsub E dX8_isSet_9 ?_
  refine g_cSi3 E (c_X8_in _ _ _) cw_X8_142 (by decide) (by decide) (by decide) dX8_isSet_10 (fun v_10 h_10 hp => ?_)
  obtain ⟨rfl, rfl⟩ := hp
  exact g_zret E Z dX8_isSet_13 q_bn ⟨_, rfl, ⟨q_bi (by rw [hn, q_pow n (by omega)]; show (0 : Int) ≤ _ ∧ _ ↔ _; omega), rfl⟩⟩
set_option maxHeartbeats 4000000 in
set_option maxRecDepth 100000 in
theorem c_X8_terms {f : Nat → Nat → Int32} {g : Nat → Nat → Int64} (ht : f 0 0 = 0) (b l t d : Int32) : q_ConI yX8_terms cX8_terms 5 (some .int) 1 25 tyM alM [.ref 0, .int b, .int l, .int t, .int d] (f, g, rfM) (fun v h' => (((1 ≤ b.toInt ∧ b.toInt ≤ 4) ∧ (1 ≤ l.toInt ∧ l.toInt ≤ 1000) ∧ (1 ≤ t.toInt ∧ t.toInt ≤ 20) ∧ (0 ≤ d.toInt ∧ d.toInt ≤ 9)) ∧ v = 0 ∧ h' = (q_up (q_up (q_up (q_up f 0 6 b) 0 7 l) 0 8 t) 0 9 d, g, rfM)) ∨ (¬ ((1 ≤ b.toInt ∧ b.toInt ≤ 4) ∧ (1 ≤ l.toInt ∧ l.toInt ≤ 1000) ∧ (1 ≤ t.toInt ∧ t.toInt ≤ 20) ∧ (0 ≤ d.toInt ∧ d.toInt ≤ 9)) ∧ v = -2 ∧ h' = (f, g, rfM))) := by
  refine q_Con.of RX8 [some (.ref 0), some (.int b), some (.int l), some (.int t), some (.int d)] (by decide +kernel) rfl rfl (Nat.le_of_ble_eq_true rfl) (fun C ad E Z => ?_)
  refine g_aload_0 E dX8_terms_0 ?_
  refine g_iconst (v := 0) E dX8_terms_1 (by decide) ?_
  refine g_putI E (by first | rfl | assumption) (by first | rfl | assumption) fw_X8_137 rfl dX8_terms_2 ?_
  rw [q_up_same ht]
  refine g_iload_1 E dX8_terms_5 ?_
  refine g_i2l E dX8_terms_6 ?_
  refine g_lconst (v := 1) E dX8_terms_7 (by decide) ?_
  refine g_ldc2 E kw_X8_157 dX8_terms_8 ?_
  refine g_cSi3 E (c_X8_inI _ _ _ (1) (4) (by decide) (by decide)) cw_X8_142 (by decide) (by decide) (by decide) dX8_terms_11 (fun v_11 h_11 hp => ?_)
  obtain ⟨rfl, rfl⟩ := hp
  refine g_if_eq (tgt := 54) E dX8_terms_14 (by decide) (fun c_14 => ?_) (fun c_14 => ?_)
  · have k_14 := q_b0.mp c_14
    refine g_bipush (v := -2) E dX8_terms_54 (by decide) ?_
    exact g_iret E Z dX8_terms_56 ⟨_, rfl, Or.inr ⟨by omega, rfl, rfl⟩⟩
  · have k_14 := q_b1.mp c_14
    refine g_iload_2 E dX8_terms_17 ?_
    refine g_i2l E dX8_terms_18 ?_
    refine g_lconst (v := 1) E dX8_terms_19 (by decide) ?_
    refine g_ldc2 E kw_X8_159 dX8_terms_20 ?_
    refine g_cSi3 E (c_X8_inI _ _ _ (1) (1000) (by decide) (by decide)) cw_X8_142 (by decide) (by decide) (by decide) dX8_terms_23 (fun v_23 h_23 hp => ?_)
    obtain ⟨rfl, rfl⟩ := hp
    refine g_if_eq (tgt := 54) E dX8_terms_26 (by decide) (fun c_26 => ?_) (fun c_26 => ?_)
    · have k_26 := q_b0.mp c_26
      refine g_bipush (v := -2) E dX8_terms_54 (by decide) ?_
      exact g_iret E Z dX8_terms_56 ⟨_, rfl, Or.inr ⟨by omega, rfl, rfl⟩⟩
    · have k_26 := q_b1.mp c_26
      refine g_iload_3 E dX8_terms_29 ?_
      refine g_i2l E dX8_terms_30 ?_
      refine g_lconst (v := 1) E dX8_terms_31 (by decide) ?_
      refine g_ldc2 E kw_X8_161 dX8_terms_32 ?_
      refine g_cSi3 E (c_X8_inI _ _ _ (1) (20) (by decide) (by decide)) cw_X8_142 (by decide) (by decide) (by decide) dX8_terms_35 (fun v_35 h_35 hp => ?_)
      obtain ⟨rfl, rfl⟩ := hp
      refine g_if_eq (tgt := 54) E dX8_terms_38 (by decide) (fun c_38 => ?_) (fun c_38 => ?_)
      · have k_38 := q_b0.mp c_38
        refine g_bipush (v := -2) E dX8_terms_54 (by decide) ?_
        exact g_iret E Z dX8_terms_56 ⟨_, rfl, Or.inr ⟨by omega, rfl, rfl⟩⟩
      · have k_38 := q_b1.mp c_38
        refine g_iload_4 E dX8_terms_41 ?_
        refine g_i2l E dX8_terms_43 ?_
        refine g_lconst (v := 0) E dX8_terms_44 (by decide) ?_
        refine g_ldc2 E kw_X8_163 dX8_terms_45 ?_
        refine g_cSi3 E (c_X8_inI _ _ _ (0) (9) (by decide) (by decide)) cw_X8_142 (by decide) (by decide) (by decide) dX8_terms_48 (fun v_48 h_48 hp => ?_)
        obtain ⟨rfl, rfl⟩ := hp
        refine g_if_ne (tgt := 57) E dX8_terms_51 (by decide) (fun c_51 => ?_) (fun c_51 => ?_)
        · have k_51 := q_b1.mp c_51
          refine g_aload_0 E dX8_terms_57 ?_
          refine g_iload_1 E dX8_terms_58 ?_
          refine g_putI E (by first | rfl | assumption) (by first | rfl | assumption) fw_X8_23 rfl dX8_terms_59 ?_
          refine g_aload_0 E dX8_terms_62 ?_
          refine g_iload_2 E dX8_terms_63 ?_
          refine g_putI E (by first | rfl | assumption) (by first | rfl | assumption) fw_X8_27 rfl dX8_terms_64 ?_
          refine g_aload_0 E dX8_terms_67 ?_
          refine g_iload_3 E dX8_terms_68 ?_
          refine g_putI E (by first | rfl | assumption) (by first | rfl | assumption) fw_X8_30 rfl dX8_terms_69 ?_
          refine g_aload_0 E dX8_terms_72 ?_
          refine g_iload_4 E dX8_terms_73 ?_
          refine g_putI E (by first | rfl | assumption) (by first | rfl | assumption) fw_X8_33 rfl dX8_terms_75 ?_
          refine g_iconst (v := 0) E dX8_terms_78 (by decide) ?_
          exact g_iret E Z dX8_terms_79 ⟨_, rfl, Or.inl ⟨by omega, rfl, rfl⟩⟩
        · have k_51 := q_b0.mp c_51
          refine g_bipush (v := -2) E dX8_terms_54 (by decide) ?_
          exact g_iret E Z dX8_terms_56 ⟨_, rfl, Or.inr ⟨by omega, rfl, rfl⟩⟩
set_option maxHeartbeats 4000000 in
set_option maxRecDepth 100000 in
theorem c_X8_cell {f : Nat → Nat → Int32} {g : Nat → Nat → Int64} (ht : f 0 0 = 0) (n : Nat) (hn : f 0 5 = nI n) (h10 : n ≤ 10) (p q u d : Int32) : q_ConI yX8_cell cX8_cell 5 (some .int) 1 25 tyM alM [.ref 0, .int p, .int q, .int u, .int d] (f, g, rfM) (fun v h' => (((1 ≤ p.toInt ∧ p.toInt ≤ 100) ∧ (1 ≤ q.toInt ∧ q.toInt ≤ 1000) ∧ (1 ≤ u.toInt ∧ u.toInt ≤ 9) ∧ (0 ≤ d.toInt ∧ d.toInt ≤ 2)) ∧ n < 10 ∧ v = nI n ∧ h' = (q_up (q_up (q_up (q_up (q_up f 15 n p) 16 n q) 17 n u) 18 n d) 0 5 (nI (n + 1)), g, rfM)) ∨ (((1 ≤ p.toInt ∧ p.toInt ≤ 100) ∧ (1 ≤ q.toInt ∧ q.toInt ≤ 1000) ∧ (1 ≤ u.toInt ∧ u.toInt ≤ 9) ∧ (0 ≤ d.toInt ∧ d.toInt ≤ 2)) ∧ n = 10 ∧ v = -3 ∧ h' = (f, g, rfM)) ∨ (¬ ((1 ≤ p.toInt ∧ p.toInt ≤ 100) ∧ (1 ≤ q.toInt ∧ q.toInt ≤ 1000) ∧ (1 ≤ u.toInt ∧ u.toInt ≤ 9) ∧ (0 ≤ d.toInt ∧ d.toInt ≤ 2)) ∧ v = -2 ∧ h' = (f, g, rfM))) := by
  refine q_Con.of RX8 [some (.ref 0), some (.int p), some (.int q), some (.int u), some (.int d)] (by decide +kernel) rfl rfl (Nat.le_of_ble_eq_true rfl) (fun C ad E Z => ?_)
  refine g_aload_0 E dX8_cell_0 ?_
  refine g_iconst (v := 0) E dX8_cell_1 (by decide) ?_
  refine g_putI E (by first | rfl | assumption) (by first | rfl | assumption) fw_X8_137 rfl dX8_cell_2 ?_
  rw [q_up_same ht]
  refine g_iload_1 E dX8_cell_5 ?_
  refine g_i2l E dX8_cell_6 ?_
  refine g_lconst (v := 1) E dX8_cell_7 (by decide) ?_
  refine g_ldc2 E kw_X8_165 dX8_cell_8 ?_
  refine g_cSi3 E (c_X8_inI _ _ _ (1) (100) (by decide) (by decide)) cw_X8_142 (by decide) (by decide) (by decide) dX8_cell_11 (fun v_11 h_11 hp => ?_)
  obtain ⟨rfl, rfl⟩ := hp
  refine g_if_eq (tgt := 54) E dX8_cell_14 (by decide) (fun c_14 => ?_) (fun c_14 => ?_)
  · have k_14 := q_b0.mp c_14
    refine g_bipush (v := -2) E dX8_cell_54 (by decide) ?_
    exact g_iret E Z dX8_cell_56 ⟨_, rfl, Or.inr (Or.inr ⟨by omega, rfl, rfl⟩)⟩
  · have k_14 := q_b1.mp c_14
    refine g_iload_2 E dX8_cell_17 ?_
    refine g_i2l E dX8_cell_18 ?_
    refine g_lconst (v := 1) E dX8_cell_19 (by decide) ?_
    refine g_ldc2 E kw_X8_159 dX8_cell_20 ?_
    refine g_cSi3 E (c_X8_inI _ _ _ (1) (1000) (by decide) (by decide)) cw_X8_142 (by decide) (by decide) (by decide) dX8_cell_23 (fun v_23 h_23 hp => ?_)
    obtain ⟨rfl, rfl⟩ := hp
    refine g_if_eq (tgt := 54) E dX8_cell_26 (by decide) (fun c_26 => ?_) (fun c_26 => ?_)
    · have k_26 := q_b0.mp c_26
      refine g_bipush (v := -2) E dX8_cell_54 (by decide) ?_
      exact g_iret E Z dX8_cell_56 ⟨_, rfl, Or.inr (Or.inr ⟨by omega, rfl, rfl⟩)⟩
    · have k_26 := q_b1.mp c_26
      refine g_iload_3 E dX8_cell_29 ?_
      refine g_i2l E dX8_cell_30 ?_
      refine g_lconst (v := 1) E dX8_cell_31 (by decide) ?_
      refine g_ldc2 E kw_X8_163 dX8_cell_32 ?_
      refine g_cSi3 E (c_X8_inI _ _ _ (1) (9) (by decide) (by decide)) cw_X8_142 (by decide) (by decide) (by decide) dX8_cell_35 (fun v_35 h_35 hp => ?_)
      obtain ⟨rfl, rfl⟩ := hp
      refine g_if_eq (tgt := 54) E dX8_cell_38 (by decide) (fun c_38 => ?_) (fun c_38 => ?_)
      · have k_38 := q_b0.mp c_38
        refine g_bipush (v := -2) E dX8_cell_54 (by decide) ?_
        exact g_iret E Z dX8_cell_56 ⟨_, rfl, Or.inr (Or.inr ⟨by omega, rfl, rfl⟩)⟩
      · have k_38 := q_b1.mp c_38
        refine g_iload_4 E dX8_cell_41 ?_
        refine g_i2l E dX8_cell_43 ?_
        refine g_lconst (v := 0) E dX8_cell_44 (by decide) ?_
        refine g_ldc2 E kw_X8_167 dX8_cell_45 ?_
        refine g_cSi3 E (c_X8_inI _ _ _ (0) (2) (by decide) (by decide)) cw_X8_142 (by decide) (by decide) (by decide) dX8_cell_48 (fun v_48 h_48 hp => ?_)
        obtain ⟨rfl, rfl⟩ := hp
        refine g_if_ne (tgt := 57) E dX8_cell_51 (by decide) (fun c_51 => ?_) (fun c_51 => ?_)
        · have k_51 := q_b1.mp c_51
          refine g_aload_0 E dX8_cell_57 ?_
          refine g_getI E (by first | rfl | assumption) (by first | rfl | assumption) fl_X8_154 rfl dX8_cell_58 ?_
          refine g_bipush (v := 10) E dX8_cell_61 (by decide) ?_
          refine g_icmp_ne (tgt := 69) E dX8_cell_63 (by decide) (fun c_63 => ?_) (fun c_63 => ?_)
          · have k_63 : n < 10 := by
              rcases Nat.lt_or_ge n 10 with z | z
              · exact z
              · exact absurd (by rw [hn, show n = 10 by omega]; rfl) c_63
            refine g_aload_0 E dX8_cell_69 ?_
            refine g_getR E (by first | rfl | assumption) (by first | rfl | assumption) fl_X8_39 rfl (by first | rfl | assumption) dX8_cell_70 ?_
            refine g_aload_0 E dX8_cell_73 ?_
            refine g_getI E (by first | rfl | assumption) (by first | rfl | assumption) fl_X8_154 rfl dX8_cell_74 ?_
            refine g_iload_1 E dX8_cell_77 ?_
            refine g_iast E (by first | rfl | assumption) (by first | rfl | assumption) dX8_cell_78 (q_ix_e (j := n) hn (by omega)) ?_
            refine g_aload_0 E dX8_cell_79 ?_
            refine g_getR E (by first | rfl | assumption) (by first | rfl | assumption) fl_X8_42 rfl (by first | rfl | assumption) dX8_cell_80 ?_
            refine g_aload_0 E dX8_cell_83 ?_
            refine g_getI E (by first | rfl | assumption) (by first | rfl | assumption) fl_X8_154 rfl dX8_cell_84 ?_
            refine g_iload_2 E dX8_cell_87 ?_
            refine g_iast E (by first | rfl | assumption) (by first | rfl | assumption) dX8_cell_88 (q_ix_e (j := n) hn (by omega)) ?_
            refine g_aload_0 E dX8_cell_89 ?_
            refine g_getR E (by first | rfl | assumption) (by first | rfl | assumption) fl_X8_45 rfl (by first | rfl | assumption) dX8_cell_90 ?_
            refine g_aload_0 E dX8_cell_93 ?_
            refine g_getI E (by first | rfl | assumption) (by first | rfl | assumption) fl_X8_154 rfl dX8_cell_94 ?_
            refine g_iload_3 E dX8_cell_97 ?_
            refine g_iast E (by first | rfl | assumption) (by first | rfl | assumption) dX8_cell_98 (q_ix_e (j := n) hn (by omega)) ?_
            refine g_aload_0 E dX8_cell_99 ?_
            refine g_getR E (by first | rfl | assumption) (by first | rfl | assumption) fl_X8_48 rfl (by first | rfl | assumption) dX8_cell_100 ?_
            refine g_aload_0 E dX8_cell_103 ?_
            refine g_getI E (by first | rfl | assumption) (by first | rfl | assumption) fl_X8_154 rfl dX8_cell_104 ?_
            refine g_iload_4 E dX8_cell_107 ?_
            refine g_iast E (by first | rfl | assumption) (by first | rfl | assumption) dX8_cell_109 (q_ix_e (j := n) hn (by omega)) ?_
            refine g_aload_0 E dX8_cell_110 ?_
            first | refine g_dupi E dX8_cell_111 ?_ | refine g_dupr E dX8_cell_111 ?_
            refine g_getI E (by first | rfl | assumption) (by first | rfl | assumption) fl_X8_154 rfl dX8_cell_112 ?_
            refine g_iconst (v := 1) E dX8_cell_115 (by decide) ?_
            refine g_iadd E dX8_cell_116 ?_
            refine g_putI E (by first | rfl | assumption) (by first | rfl | assumption) fw_X8_154 rfl dX8_cell_117 ?_
            refine g_aload_0 E dX8_cell_120 ?_
            refine g_getI E (by first | rfl | assumption) (by first | rfl | assumption) fl_X8_154 rfl dX8_cell_121 ?_
            refine g_iconst (v := 1) E dX8_cell_124 (by decide) ?_
            refine g_isub E dX8_cell_125 ?_
            exact g_iret E Z dX8_cell_126 ⟨_, rfl, Or.inl ⟨by omega, k_63, (by rw [q_ups]; show f 0 5 + 1 - 1 = _; rw [hn, ← nI_succ, nI_pred]), (by show (q_up _ 0 5 (f 0 5 + 1), _, _) = _; rw [hn, ← nI_succ])⟩⟩
          · have k_63 : n = 10 := (nI_eq (by omega) (by omega)).mp (hn.symm.trans c_63)
            refine g_bipush (v := -3) E dX8_cell_66 (by decide) ?_
            exact g_iret E Z dX8_cell_68 ⟨_, rfl, Or.inr (Or.inl ⟨by omega, k_63, rfl, rfl⟩)⟩
        · have k_51 := q_b0.mp c_51
          refine g_bipush (v := -2) E dX8_cell_54 (by decide) ?_
          exact g_iret E Z dX8_cell_56 ⟨_, rfl, Or.inr (Or.inr ⟨by omega, rfl, rfl⟩)⟩
set_option maxHeartbeats 4000000 in
set_option maxRecDepth 100000 in
theorem c_X8_rain {f : Nat → Nat → Int32} {g : Nat → Nat → Int64} (ht : f 0 0 = 0) (n : Nat) (hn : f 0 5 = nI n) (h10 : n ≤ 10) (c x : Int32) : q_ConI yX8_rain cX8_rain 4 (some .int) 2 46 tyM alM [.ref 0, .int c, .int x] (f, g, rfM) (fun v h' => (∃ j : Nat, j < n ∧ c = nI j ∧ (0 ≤ x.toInt ∧ x.toInt ≤ 2) ∧ v = f 22 j ∧ h' = (q_up f 22 j x, g, rfM)) ∨ (¬ ((0 ≤ c.toInt ∧ c.toInt < n) ∧ (0 ≤ x.toInt ∧ x.toInt ≤ 2)) ∧ v = -2 ∧ h' = (f, g, rfM))) := by
  refine q_Con.of RX8 [some (.ref 0), some (.int c), some (.int x), none] (by decide +kernel) rfl rfl (Nat.le_of_ble_eq_true rfl) (fun C ad E Z => ?_)
  refine g_aload_0 E dX8_rain_0 ?_
  refine g_iconst (v := 0) E dX8_rain_1 (by decide) ?_
  refine g_putI E (by first | rfl | assumption) (by first | rfl | assumption) fw_X8_137 rfl dX8_rain_2 ?_
  rw [q_up_same ht]
  refine g_aload_0 E dX8_rain_5 ?_
  refine g_iload_1 E dX8_rain_6 ?_
  refine g_cVi1 E (c_X8_isCell n hn h10 _) cw_X8_169 (by decide) (by decide) (by first | rfl | assumption) (by first | rfl | assumption) (by decide) dX8_rain_7 (fun v_7 h_7 hp => ?_)
  obtain ⟨rfl, rfl⟩ := hp
  refine g_if_eq (tgt := 25) E dX8_rain_10 (by decide) (fun c_10 => ?_) (fun c_10 => ?_)
  · have k_10 := q_b0.mp c_10
    refine g_bipush (v := -2) E dX8_rain_25 (by decide) ?_
    exact g_iret E Z dX8_rain_27 ⟨_, rfl, Or.inr ⟨by omega, rfl, rfl⟩⟩
  · have k_10 := q_b1.mp c_10
    refine g_iload_2 E dX8_rain_13 ?_
    refine g_i2l E dX8_rain_14 ?_
    refine g_lconst (v := 0) E dX8_rain_15 (by decide) ?_
    refine g_ldc2 E kw_X8_167 dX8_rain_16 ?_
    refine g_cSi3 E (c_X8_inI _ _ _ (0) (2) (by decide) (by decide)) cw_X8_142 (by decide) (by decide) (by decide) dX8_rain_19 (fun v_19 h_19 hp => ?_)
    obtain ⟨rfl, rfl⟩ := hp
    refine g_if_ne (tgt := 28) E dX8_rain_22 (by decide) (fun c_22 => ?_) (fun c_22 => ?_)
    · have k_22 := q_b1.mp c_22
      obtain ⟨j, hj, rfl⟩ := q_nat (b := n - 1) k_10.1 (by omega)
      have hjn : j < n := by have := k_10.2; rw [nI_toInt (by omega)] at this; omega
      refine g_aload_0 E dX8_rain_28 ?_
      refine g_getR E (by first | rfl | assumption) (by first | rfl | assumption) fl_X8_60 rfl (by first | rfl | assumption) dX8_rain_29 ?_
      refine g_iload_1 E dX8_rain_32 ?_
      refine g_iald E (by first | rfl | assumption) (by first | rfl | assumption) dX8_rain_33 (q_ix_n (by omega)) ?_
      refine g_istore_3 E dX8_rain_34 (by decide) rfl ?_
      refine g_aload_0 E dX8_rain_35 ?_
      refine g_getR E (by first | rfl | assumption) (by first | rfl | assumption) fl_X8_60 rfl (by first | rfl | assumption) dX8_rain_36 ?_
      refine g_iload_1 E dX8_rain_39 ?_
      refine g_iload_2 E dX8_rain_40 ?_
      refine g_iast E (by first | rfl | assumption) (by first | rfl | assumption) dX8_rain_41 (q_ix_n (by omega)) ?_
      refine g_iload_3 E dX8_rain_42 ?_
      exact g_iret E Z dX8_rain_43 ⟨_, rfl, Or.inl ⟨j, hjn, rfl, k_22, rfl, rfl⟩⟩
    · have k_22 := q_b0.mp c_22
      refine g_bipush (v := -2) E dX8_rain_25 (by decide) ?_
      exact g_iret E Z dX8_rain_27 ⟨_, rfl, Or.inr ⟨by omega, rfl, rfl⟩⟩
set_option maxHeartbeats 4000000 in
set_option maxRecDepth 100000 in
theorem c_X8_gateway {f : Nat → Nat → Int32} {g : Nat → Nat → Int64} (ht : f 0 0 = 0) (c x u : Int32) (hu : u = 0 ∨ u = 1) : q_ConI yX8_gateway cX8_gateway 4 (some .int) 2 45 tyM alM [.ref 0, .int c, .int x, .int u] (f, g, rfM) (fun v h' => (∃ j : Nat, j < 3 ∧ c = nI j ∧ (0 ≤ x.toInt ∧ x.toInt ≤ 10) ∧ v = 0 ∧ h' = (q_up (q_up f 27 j x) 28 j u, g, rfM)) ∨ (¬ ((0 ≤ c.toInt ∧ c.toInt ≤ 2) ∧ (0 ≤ x.toInt ∧ x.toInt ≤ 10)) ∧ v = -2 ∧ h' = (f, g, rfM))) := by
  refine q_Con.of RX8 [some (.ref 0), some (.int c), some (.int x), some (.int u)] (by decide +kernel) rfl rfl (Nat.le_of_ble_eq_true rfl) (fun C ad E Z => ?_)
  refine g_aload_0 E dX8_gateway_0 ?_
  refine g_iconst (v := 0) E dX8_gateway_1 (by decide) ?_
  refine g_putI E (by first | rfl | assumption) (by first | rfl | assumption) fw_X8_137 rfl dX8_gateway_2 ?_
  rw [q_up_same ht]
  refine g_iload_1 E dX8_gateway_5 ?_
  refine g_cSi1 E (c_X8_isGate _) cw_X8_172 (by decide) (by decide) (by decide) dX8_gateway_6 (fun v_6 h_6 hp => ?_)
  obtain ⟨rfl, rfl⟩ := hp
  refine g_if_eq (tgt := 24) E dX8_gateway_9 (by decide) (fun c_9 => ?_) (fun c_9 => ?_)
  · have k_9 := q_b0.mp c_9
    refine g_bipush (v := -2) E dX8_gateway_24 (by decide) ?_
    exact g_iret E Z dX8_gateway_26 ⟨_, rfl, Or.inr ⟨by omega, rfl, rfl⟩⟩
  · have k_9 := q_b1.mp c_9
    refine g_iload_2 E dX8_gateway_12 ?_
    refine g_i2l E dX8_gateway_13 ?_
    refine g_lconst (v := 0) E dX8_gateway_14 (by decide) ?_
    refine g_ldc2 E kw_X8_175 dX8_gateway_15 ?_
    refine g_cSi3 E (c_X8_inI _ _ _ (0) (10) (by decide) (by decide)) cw_X8_142 (by decide) (by decide) (by decide) dX8_gateway_18 (fun v_18 h_18 hp => ?_)
    obtain ⟨rfl, rfl⟩ := hp
    refine g_if_ne (tgt := 27) E dX8_gateway_21 (by decide) (fun c_21 => ?_) (fun c_21 => ?_)
    · have k_21 := q_b1.mp c_21
      obtain ⟨j, hj, rfl⟩ := q_nat (b := 2) k_9.1 (by omega)
      refine g_aload_0 E dX8_gateway_27 ?_
      refine g_getR E (by first | rfl | assumption) (by first | rfl | assumption) fl_X8_75 rfl (by first | rfl | assumption) dX8_gateway_28 ?_
      refine g_iload_1 E dX8_gateway_31 ?_
      refine g_iload_2 E dX8_gateway_32 ?_
      refine g_iast E (by first | rfl | assumption) (by first | rfl | assumption) dX8_gateway_33 (q_ix_n (by omega)) ?_
      refine g_aload_0 E dX8_gateway_34 ?_
      refine g_getR E (by first | rfl | assumption) (by first | rfl | assumption) fl_X8_78 rfl (by first | rfl | assumption) dX8_gateway_35 ?_
      refine g_iload_1 E dX8_gateway_38 ?_
      refine g_iload_3 E dX8_gateway_39 ?_
      first | refine g_zast E (by first | rfl | assumption) (by first | rfl | assumption) dX8_gateway_40 (q_ix_n (by omega)) (by rcases hu with rfl | rfl <;> rfl) ?_ | refine g_bast E (by first | rfl | assumption) (by first | rfl | assumption) dX8_gateway_40 (q_ix_n (by omega)) (by rcases hu with rfl | rfl <;> rfl) ?_
      refine g_iconst (v := 0) E dX8_gateway_41 (by decide) ?_
      exact g_iret E Z dX8_gateway_42 ⟨_, rfl, Or.inl ⟨j, by omega, rfl, k_21, rfl, rfl⟩⟩
    · have k_21 := q_b0.mp c_21
      refine g_bipush (v := -2) E dX8_gateway_24 (by decide) ?_
      exact g_iret E Z dX8_gateway_26 ⟨_, rfl, Or.inr ⟨by omega, rfl, rfl⟩⟩
set_option maxHeartbeats 4000000 in
set_option maxRecDepth 100000 in
theorem c_X8_swap {f : Nat → Nat → Int32} {g : Nat → Nat → Int64} (ht : f 0 0 = 0) (n : Nat) (hn : f 0 5 = nI n) (h10 : n ≤ 10) (c x : Int32) : q_ConI yX8_swap cX8_swap 3 (some .int) 2 46 tyM alM [.ref 0, .int c, .int x] (f, g, rfM) (fun v h' => (∃ j : Nat, j < n ∧ c = nI j ∧ (0 ≤ x.toInt ∧ x.toInt ≤ 2) ∧ ¬ f 18 j = x ∧ ((0 < f 19 j ∧ v = -7 ∧ h' = (f, g, rfM)) ∨ (¬ 0 < f 19 j ∧ v = 0 ∧ h' = (q_up (q_up f 18 j x) 19 j (f 0 9), g, rfM)))) ∨ (¬ ((0 ≤ c.toInt ∧ c.toInt < n) ∧ (0 ≤ x.toInt ∧ x.toInt ≤ 2) ∧ ¬ f 18 c.toNatClampNeg = x) ∧ v = -2 ∧ h' = (f, g, rfM))) := by
  refine q_Con.of RX8 [some (.ref 0), some (.int c), some (.int x)] (by decide +kernel) rfl rfl (Nat.le_of_ble_eq_true rfl) (fun C ad E Z => ?_)
  refine g_aload_0 E dX8_swap_0 ?_
  refine g_iconst (v := 0) E dX8_swap_1 (by decide) ?_
  refine g_putI E (by first | rfl | assumption) (by first | rfl | assumption) fw_X8_137 rfl dX8_swap_2 ?_
  rw [q_up_same ht]
  refine g_aload_0 E dX8_swap_5 ?_
  refine g_iload_1 E dX8_swap_6 ?_
  refine g_cVi1 E (c_X8_isCell n hn h10 _) cw_X8_169 (by decide) (by decide) (by first | rfl | assumption) (by first | rfl | assumption) (by decide) dX8_swap_7 (fun v_7 h_7 hp => ?_)
  obtain ⟨rfl, rfl⟩ := hp
  refine g_if_eq (tgt := 30) E dX8_swap_10 (by decide) (fun c_10 => ?_) (fun c_10 => ?_)
  · have k_10 := q_b0.mp c_10
    refine g_bipush (v := -2) E dX8_swap_30 (by decide) ?_
    exact g_iret E Z dX8_swap_32 ⟨_, rfl, Or.inr ⟨by first | omega | (rintro ⟨_, _, q⟩; rw [nI_clamp (by omega)] at q; exact q c_27), rfl, rfl⟩⟩
  · have k_10 := q_b1.mp c_10
    refine g_iload_2 E dX8_swap_13 ?_
    refine g_cSi1 E (c_X8_isGate _) cw_X8_172 (by decide) (by decide) (by decide) dX8_swap_14 (fun v_14 h_14 hp => ?_)
    obtain ⟨rfl, rfl⟩ := hp
    refine g_if_eq (tgt := 30) E dX8_swap_17 (by decide) (fun c_17 => ?_) (fun c_17 => ?_)
    · have k_17 := q_b0.mp c_17
      refine g_bipush (v := -2) E dX8_swap_30 (by decide) ?_
      exact g_iret E Z dX8_swap_32 ⟨_, rfl, Or.inr ⟨by first | omega | (rintro ⟨_, _, q⟩; rw [nI_clamp (by omega)] at q; exact q c_27), rfl, rfl⟩⟩
    · have k_17 := q_b1.mp c_17
      obtain ⟨j, hj, rfl⟩ := q_nat (b := n - 1) k_10.1 (by omega)
      have hjn : j < n := by have := k_10.2; rw [nI_toInt (by omega)] at this; omega
      refine g_aload_0 E dX8_swap_20 ?_
      refine g_getR E (by first | rfl | assumption) (by first | rfl | assumption) fl_X8_48 rfl (by first | rfl | assumption) dX8_swap_21 ?_
      refine g_iload_1 E dX8_swap_24 ?_
      refine g_iald E (by first | rfl | assumption) (by first | rfl | assumption) dX8_swap_25 (q_ix_n (by omega)) ?_
      refine g_iload_2 E dX8_swap_26 ?_
      refine g_icmp_ne (tgt := 33) E dX8_swap_27 (by decide) (fun c_27 => ?_) (fun c_27 => ?_)
      · refine g_aload_0 E dX8_swap_33 ?_
        refine g_getR E (by first | rfl | assumption) (by first | rfl | assumption) fl_X8_51 rfl (by first | rfl | assumption) dX8_swap_34 ?_
        refine g_iload_1 E dX8_swap_37 ?_
        refine g_iald E (by first | rfl | assumption) (by first | rfl | assumption) dX8_swap_38 (q_ix_n (by omega)) ?_
        refine g_if_le (tgt := 45) E dX8_swap_39 (by decide) (fun c_39 => ?_) (fun c_39 => ?_)
        · have k39 : ¬ 0 < f 19 j := fun q => absurd (q_ile.mp c_39) (by have := q_ilt.mp q; omega)
          refine g_aload_0 E dX8_swap_45 ?_
          refine g_getR E (by first | rfl | assumption) (by first | rfl | assumption) fl_X8_48 rfl (by first | rfl | assumption) dX8_swap_46 ?_
          refine g_iload_1 E dX8_swap_49 ?_
          refine g_iload_2 E dX8_swap_50 ?_
          refine g_iast E (by first | rfl | assumption) (by first | rfl | assumption) dX8_swap_51 (q_ix_n (by omega)) ?_
          refine g_aload_0 E dX8_swap_52 ?_
          refine g_getR E (by first | rfl | assumption) (by first | rfl | assumption) fl_X8_51 rfl (by first | rfl | assumption) dX8_swap_53 ?_
          refine g_iload_1 E dX8_swap_56 ?_
          refine g_aload_0 E dX8_swap_57 ?_
          refine g_getI E (by first | rfl | assumption) (by first | rfl | assumption) fl_X8_33 rfl dX8_swap_58 ?_
          refine g_iast E (by first | rfl | assumption) (by first | rfl | assumption) dX8_swap_61 (q_ix_n (by omega)) ?_
          refine g_iconst (v := 0) E dX8_swap_62 (by decide) ?_
          exact g_iret E Z dX8_swap_63 ⟨_, rfl, Or.inl ⟨j, hjn, rfl, k_17, c_27, Or.inr ⟨k39, rfl, rfl⟩⟩⟩
        · have k39 := c_39
          refine g_bipush (v := -7) E dX8_swap_42 (by decide) ?_
          exact g_iret E Z dX8_swap_44 ⟨_, rfl, Or.inl ⟨j, hjn, rfl, k_17, c_27, Or.inl ⟨by first | exact Int32.not_le.mp k39 | exact k39, rfl, rfl⟩⟩⟩
      · refine g_bipush (v := -2) E dX8_swap_30 (by decide) ?_
        exact g_iret E Z dX8_swap_32 ⟨_, rfl, Or.inr ⟨by first | omega | (rintro ⟨_, _, q⟩; rw [nI_clamp (by omega)] at q; exact q c_27), rfl, rfl⟩⟩
set_option maxHeartbeats 4000000 in
set_option maxRecDepth 100000 in
theorem c_X8_rule {f : Nat → Nat → Int32} {g : Nat → Nat → Int64} (ht : f 0 0 = 0) (x : Int32) : q_ConI yX8_rule cX8_rule 3 (some .int) 1 25 tyM alM [.ref 0, .int x] (f, g, rfM) (fun v h' => ((0 ≤ x.toInt ∧ x.toInt ≤ 1) ∧ v = f 0 11 ∧ h' = (q_up f 0 11 x, g, rfM)) ∨ (¬ (0 ≤ x.toInt ∧ x.toInt ≤ 1) ∧ v = -2 ∧ h' = (f, g, rfM))) := by
  refine q_Con.of RX8 [some (.ref 0), some (.int x), none] (by decide +kernel) rfl rfl (Nat.le_of_ble_eq_true rfl) (fun C ad E Z => ?_)
  refine g_aload_0 E dX8_rule_0 ?_
  refine g_iconst (v := 0) E dX8_rule_1 (by decide) ?_
  refine g_putI E (by first | rfl | assumption) (by first | rfl | assumption) fw_X8_137 rfl dX8_rule_2 ?_
  rw [q_up_same ht]
  refine g_iload_1 E dX8_rule_5 ?_
  refine g_i2l E dX8_rule_6 ?_
  refine g_lconst (v := 0) E dX8_rule_7 (by decide) ?_
  refine g_lconst (v := 1) E dX8_rule_8 (by decide) ?_
  refine g_cSi3 E (c_X8_inI _ _ _ (0) (1) (by decide) (by decide)) cw_X8_142 (by decide) (by decide) (by decide) dX8_rule_9 (fun v_9 h_9 hp => ?_)
  obtain ⟨rfl, rfl⟩ := hp
  refine g_if_ne (tgt := 18) E dX8_rule_12 (by decide) (fun c_12 => ?_) (fun c_12 => ?_)
  · have k_12 := q_b1.mp c_12
    refine g_aload_0 E dX8_rule_18 ?_
    refine g_getI E (by first | rfl | assumption) (by first | rfl | assumption) fl_X8_250 rfl dX8_rule_19 ?_
    refine g_istore_2 E dX8_rule_22 (by decide) rfl ?_
    refine g_aload_0 E dX8_rule_23 ?_
    refine g_iload_1 E dX8_rule_24 ?_
    refine g_putI E (by first | rfl | assumption) (by first | rfl | assumption) fw_X8_250 rfl dX8_rule_25 ?_
    refine g_iload_2 E dX8_rule_28 ?_
    exact g_iret E Z dX8_rule_29 ⟨_, rfl, Or.inl ⟨k_12, rfl, rfl⟩⟩
  · have k_12 := q_b0.mp c_12
    refine g_bipush (v := -2) E dX8_rule_15 (by decide) ?_
    exact g_iret E Z dX8_rule_17 ⟨_, rfl, Or.inr ⟨k_12, rfl, rfl⟩⟩
set_option maxHeartbeats 4000000 in
set_option maxRecDepth 100000 in
theorem c_X8_lit {f : Nat → Nat → Int32} {g : Nat → Nat → Int64} (ht : f 0 0 = 0) : q_ConI yX8_lit cX8_lit 1 (some .int) 0 0 tyM alM [.ref 0] (f, g, rfM) (fun v h' => v = f 0 12 ∧ h' = (f, g, rfM)) := by
  refine q_Con.of RX8 [some (.ref 0)] (by decide +kernel) rfl rfl (Nat.le_of_ble_eq_true rfl) (fun C ad E Z => ?_)
  refine g_aload_0 E dX8_lit_0 ?_
  refine g_iconst (v := 0) E dX8_lit_1 (by decide) ?_
  refine g_putI E (by first | rfl | assumption) (by first | rfl | assumption) fw_X8_137 rfl dX8_lit_2 ?_
  rw [q_up_same ht]
  refine g_aload_0 E dX8_lit_5 ?_
  refine g_getI E (by first | rfl | assumption) (by first | rfl | assumption) fl_X8_36 rfl dX8_lit_6 ?_
  exact g_iret E Z dX8_lit_9 ⟨_, rfl, ⟨rfl, rfl⟩⟩
set_option maxHeartbeats 4000000 in
set_option maxRecDepth 100000 in
theorem c_X8_frame {f : Nat → Nat → Int32} {g : Nat → Nat → Int64} (ht : f 0 0 = 0) (n : Nat) (hn : f 0 13 = nI n) (h10 : n ≤ 100) (x : Int32) : q_ConI yX8_frame cX8_frame 2 (some .int) 1 25 tyM alM [.ref 0, .int x] (f, g, rfM) (fun v h' => v = (if 0 ≤ x.toInt ∧ x.toInt < n then f 29 x.toNatClampNeg else -1) ∧ h' = (f, g, rfM)) := by
  refine q_Con.of RX8 [some (.ref 0), some (.int x)] (by decide +kernel) rfl rfl (Nat.le_of_ble_eq_true rfl) (fun C ad E Z => ?_)
  have hpi : (f 0 13 - 1).toInt = (n : Int) - 1 := by rw [hn]; exact q_pred (by omega)
  refine g_aload_0 E dX8_frame_0 ?_
  refine g_iconst (v := 0) E dX8_frame_1 (by decide) ?_
  refine g_putI E (by first | rfl | assumption) (by first | rfl | assumption) fw_X8_137 rfl dX8_frame_2 ?_
  rw [q_up_same ht]
  refine g_iload_1 E dX8_frame_5 ?_
  refine g_i2l E dX8_frame_6 ?_
  refine g_lconst (v := 0) E dX8_frame_7 (by decide) ?_
  refine g_aload_0 E dX8_frame_8 ?_
  refine g_getI E (by first | rfl | assumption) (by first | rfl | assumption) fl_X8_199 rfl dX8_frame_9 ?_
  refine g_iconst (v := 1) E dX8_frame_12 (by decide) ?_
  refine g_isub E dX8_frame_13 ?_
  refine g_i2l E dX8_frame_14 ?_
  refine g_cSi3 E (c_X8_inI _ _ _ 0 ((n : Int) - 1) (by decide) (by rw [q_32, hpi])) cw_X8_142 (by decide) (by decide) (by decide) dX8_frame_15 (fun v_15 h_15 hp => ?_)
  obtain ⟨rfl, rfl⟩ := hp
  refine g_if_eq (tgt := 30) E dX8_frame_18 (by decide) (fun c_18 => ?_) (fun c_18 => ?_)
  · have k_18 := q_b0.mp c_18
    refine g_iconst (v := -1) E dX8_frame_30 (by decide) ?_
    exact g_iret E Z dX8_frame_31 ⟨_, rfl, ⟨by first | (rw [if_neg (by omega)]; done) | (rw [if_pos ⟨k_18.1, by omega⟩, nI_clamp (by omega)]), rfl⟩⟩
  · have k_18 := q_b1.mp c_18
    obtain ⟨j, hj, rfl⟩ := q_nat (b := n - 1) k_18.1 (by omega)
    have hjn : j < n := by have := k_18.2; rw [nI_toInt (by omega)] at this; omega
    refine g_aload_0 E dX8_frame_21 ?_
    refine g_getR E (by first | rfl | assumption) (by first | rfl | assumption) fl_X8_82 rfl (by first | rfl | assumption) dX8_frame_22 ?_
    refine g_iload_1 E dX8_frame_25 ?_
    refine g_iald E (by first | rfl | assumption) (by first | rfl | assumption) dX8_frame_26 (q_ix_n (by omega)) ?_
    refine g_goto (tgt := 31) E dX8_frame_27 (by decide) ?_
    exact g_iret E Z dX8_frame_31 ⟨_, rfl, ⟨by first | (rw [if_neg (by omega)]; done) | (rw [if_pos ⟨k_18.1, by omega⟩, nI_clamp (by omega)]), rfl⟩⟩
set_option maxHeartbeats 4000000 in
set_option maxRecDepth 100000 in
theorem c_X8_powerNow {f : Nat → Nat → Int32} {g : Nat → Nat → Int64} {n : Nat} (c : Nat) (hc : c < 10) : q_ConI yX8_powerNow cX8_powerNow 2 (some .int) 0 0 tyM alM [.ref 0, .int (nI c)] (f, g, rfM) (fun v h' => v = f 15 c * (2 + f 22 c) / 2 ∧ h' = (f, g, rfM)) := by
  refine q_Con.of RX8 [some (.ref 0), some (.int (nI c))] (by decide +kernel) rfl rfl (Nat.le_of_ble_eq_true rfl) (fun C ad E Z => ?_)
  refine g_aload_0 E dX8_powerNow_0 ?_
  refine g_getR E (by first | rfl | assumption) (by first | rfl | assumption) fl_X8_39 rfl (by first | rfl | assumption) dX8_powerNow_1 ?_
  refine g_iload_1 E dX8_powerNow_4 ?_
  refine g_iald E (by first | rfl | assumption) (by first | rfl | assumption) dX8_powerNow_5 (q_ix_n (by omega)) ?_
  refine g_iconst (v := 2) E dX8_powerNow_6 (by decide) ?_
  refine g_aload_0 E dX8_powerNow_7 ?_
  refine g_getR E (by first | rfl | assumption) (by first | rfl | assumption) fl_X8_60 rfl (by first | rfl | assumption) dX8_powerNow_8 ?_
  refine g_iload_1 E dX8_powerNow_11 ?_
  refine g_iald E (by first | rfl | assumption) (by first | rfl | assumption) dX8_powerNow_12 (q_ix_n (by omega)) ?_
  refine g_iadd E dX8_powerNow_13 ?_
  refine g_imul E dX8_powerNow_14 ?_
  refine g_iconst (v := 2) E dX8_powerNow_15 (by decide) ?_
  refine g_idiv E dX8_powerNow_16 (by decide) ?_
  exact g_iret E Z dX8_powerNow_17 ⟨_, rfl, ⟨rfl, rfl⟩⟩
def q_rate (r a : Int32) : Int32 := if r = 0 then a else if r = 1 then a / 2 else 0
set_option maxHeartbeats 4000000 in
set_option maxRecDepth 100000 in
theorem c_X8_rateNow {f : Nat → Nat → Int32} {g : Nat → Nat → Int64} (c : Nat) (hc : c < 10) : q_ConI yX8_rateNow cX8_rateNow 2 (some .int) 0 0 tyM alM [.ref 0, .int (nI c)] (f, g, rfM) (fun v h' => v = q_rate (f 22 c) (f 16 c) ∧ h' = (f, g, rfM)) := by
  refine q_Con.of RX8 [some (.ref 0), some (.int (nI c))] (by decide +kernel) rfl rfl (Nat.le_of_ble_eq_true rfl) (fun C ad E Z => ?_)
  refine g_aload_0 E dX8_rateNow_0 ?_
  refine g_getR E (by first | rfl | assumption) (by first | rfl | assumption) fl_X8_60 rfl (by first | rfl | assumption) dX8_rateNow_1 ?_
  refine g_iload_1 E dX8_rateNow_4 ?_
  refine g_iald E (by first | rfl | assumption) (by first | rfl | assumption) dX8_rateNow_5 (q_ix_n (by omega)) ?_
  refine g_if_ne (tgt := 18) E dX8_rateNow_6 (by decide) (fun c_6 => ?_) (fun c_6 => ?_)
  · refine g_aload_0 E dX8_rateNow_18 ?_
    refine g_getR E (by first | rfl | assumption) (by first | rfl | assumption) fl_X8_60 rfl (by first | rfl | assumption) dX8_rateNow_19 ?_
    refine g_iload_1 E dX8_rateNow_22 ?_
    refine g_iald E (by first | rfl | assumption) (by first | rfl | assumption) dX8_rateNow_23 (q_ix_n (by omega)) ?_
    refine g_iconst (v := 1) E dX8_rateNow_24 (by decide) ?_
    refine g_icmp_ne (tgt := 39) E dX8_rateNow_25 (by decide) (fun c_25 => ?_) (fun c_25 => ?_)
    · refine g_iconst (v := 0) E dX8_rateNow_39 (by decide) ?_
      exact g_iret E Z dX8_rateNow_40 ⟨_, rfl, ⟨by unfold q_rate; simp [*], rfl⟩⟩
    · refine g_aload_0 E dX8_rateNow_28 ?_
      refine g_getR E (by first | rfl | assumption) (by first | rfl | assumption) fl_X8_42 rfl (by first | rfl | assumption) dX8_rateNow_29 ?_
      refine g_iload_1 E dX8_rateNow_32 ?_
      refine g_iald E (by first | rfl | assumption) (by first | rfl | assumption) dX8_rateNow_33 (q_ix_n (by omega)) ?_
      refine g_iconst (v := 2) E dX8_rateNow_34 (by decide) ?_
      refine g_idiv E dX8_rateNow_35 (by decide) ?_
      refine g_goto (tgt := 40) E dX8_rateNow_36 (by decide) ?_
      exact g_iret E Z dX8_rateNow_40 ⟨_, rfl, ⟨by unfold q_rate; simp [*], rfl⟩⟩
  · refine g_aload_0 E dX8_rateNow_9 ?_
    refine g_getR E (by first | rfl | assumption) (by first | rfl | assumption) fl_X8_42 rfl (by first | rfl | assumption) dX8_rateNow_10 ?_
    refine g_iload_1 E dX8_rateNow_13 ?_
    refine g_iald E (by first | rfl | assumption) (by first | rfl | assumption) dX8_rateNow_14 (q_ix_n (by omega)) ?_
    refine g_goto (tgt := 40) E dX8_rateNow_15 (by decide) ?_
    exact g_iret E Z dX8_rateNow_40 ⟨_, rfl, ⟨by unfold q_rate; simp [*], rfl⟩⟩
set_option maxHeartbeats 4000000 in
set_option maxRecDepth 100000 in
theorem c_X8_units {f : Nat → Nat → Int32} {g : Nat → Nat → Int64} (ht : f 0 0 = 0) (n : Nat) (hn : f 0 5 = nI n) (h10 : n ≤ 10) (c x : Int32) : q_ConL yX8_units cX8_units 3 (some .long) 2 46 tyM alM [.ref 0, .int c, .int x] (f, g, rfM) (fun v h' => v = (if 0 ≤ c.toInt ∧ c.toInt < n then (if x = 0 then g 31 c.toNatClampNeg else if x = 1 then g 32 c.toNatClampNeg else if x = 2 then g 33 c.toNatClampNeg else -2) else -2) ∧ h' = (f, g, rfM)) := by
  refine q_Con.of RX8 [some (.ref 0), some (.int c), some (.int x)] (by decide +kernel) rfl rfl (Nat.le_of_ble_eq_true rfl) (fun C ad E Z => ?_)
  refine g_aload_0 E dX8_units_0 ?_
  refine g_iconst (v := 0) E dX8_units_1 (by decide) ?_
  refine g_putI E (by first | rfl | assumption) (by first | rfl | assumption) fw_X8_137 rfl dX8_units_2 ?_
  rw [q_up_same ht]
  refine g_aload_0 E dX8_units_5 ?_
  refine g_iload_1 E dX8_units_6 ?_
  refine g_cVi1 E (c_X8_isCell n hn h10 _) cw_X8_169 (by decide) (by decide) (by first | rfl | assumption) (by first | rfl | assumption) (by decide) dX8_units_7 (fun v_7 h_7 hp => ?_)
  obtain ⟨rfl, rfl⟩ := hp
  refine g_if_ne (tgt := 19) E dX8_units_10 (by decide) (fun c_10 => ?_) (fun c_10 => ?_)
  · have k_10 := q_b1.mp c_10
    obtain ⟨j, hj, rfl⟩ := q_nat (b := n - 1) k_10.1 (by omega)
    have hjn : j < n := by have := k_10.2; rw [nI_toInt (by omega)] at this; omega
    refine g_iload_2 E dX8_units_19 ?_
    refine g_if_ne (tgt := 32) E dX8_units_20 (by decide) (fun c_20 => ?_) (fun c_20 => ?_)
    · refine g_iload_2 E dX8_units_32 ?_
      refine g_iconst (v := 1) E dX8_units_33 (by decide) ?_
      refine g_icmp_ne (tgt := 46) E dX8_units_34 (by decide) (fun c_34 => ?_) (fun c_34 => ?_)
      · refine g_iload_2 E dX8_units_46 ?_
        refine g_iconst (v := 2) E dX8_units_47 (by decide) ?_
        refine g_icmp_ne (tgt := 60) E dX8_units_48 (by decide) (fun c_48 => ?_) (fun c_48 => ?_)
        · refine g_ldc2 E kw_X8_279 dX8_units_60 ?_
          exact g_lret E Z dX8_units_63 ⟨_, rfl, ⟨by first | (rw [if_neg (by omega)]; done) | (rw [if_pos ⟨k_10.1, k_10.2⟩, nI_clamp (by omega)]; simp [*]), rfl⟩⟩
        · refine g_aload_0 E dX8_units_51 ?_
          refine g_getR E (by first | rfl | assumption) (by first | rfl | assumption) fl_X8_94 rfl (by first | rfl | assumption) dX8_units_52 ?_
          refine g_iload_1 E dX8_units_55 ?_
          refine g_lald E (by first | rfl | assumption) (by first | rfl | assumption) dX8_units_56 (q_ix_n (by omega)) ?_
          refine g_goto (tgt := 63) E dX8_units_57 (by decide) ?_
          exact g_lret E Z dX8_units_63 ⟨_, rfl, ⟨by first | (rw [if_neg (by omega)]; done) | (rw [if_pos ⟨k_10.1, k_10.2⟩, nI_clamp (by omega)]; simp [*]), rfl⟩⟩
      · refine g_aload_0 E dX8_units_37 ?_
        refine g_getR E (by first | rfl | assumption) (by first | rfl | assumption) fl_X8_91 rfl (by first | rfl | assumption) dX8_units_38 ?_
        refine g_iload_1 E dX8_units_41 ?_
        refine g_lald E (by first | rfl | assumption) (by first | rfl | assumption) dX8_units_42 (q_ix_n (by omega)) ?_
        refine g_goto (tgt := 63) E dX8_units_43 (by decide) ?_
        exact g_lret E Z dX8_units_63 ⟨_, rfl, ⟨by first | (rw [if_neg (by omega)]; done) | (rw [if_pos ⟨k_10.1, k_10.2⟩, nI_clamp (by omega)]; simp [*]), rfl⟩⟩
    · refine g_aload_0 E dX8_units_23 ?_
      refine g_getR E (by first | rfl | assumption) (by first | rfl | assumption) fl_X8_88 rfl (by first | rfl | assumption) dX8_units_24 ?_
      refine g_iload_1 E dX8_units_27 ?_
      refine g_lald E (by first | rfl | assumption) (by first | rfl | assumption) dX8_units_28 (q_ix_n (by omega)) ?_
      refine g_goto (tgt := 63) E dX8_units_29 (by decide) ?_
      exact g_lret E Z dX8_units_63 ⟨_, rfl, ⟨by first | (rw [if_neg (by omega)]; done) | (rw [if_pos ⟨k_10.1, k_10.2⟩, nI_clamp (by omega)]; simp [*]), rfl⟩⟩
  · have k_10 := q_b0.mp c_10
    refine g_ldc2 E kw_X8_279 dX8_units_13 ?_
    refine g_goto (tgt := 63) E dX8_units_16 (by decide) ?_
    exact g_lret E Z dX8_units_63 ⟨_, rfl, ⟨by first | (rw [if_neg (by omega)]; done) | (rw [if_pos ⟨k_10.1, k_10.2⟩, nI_clamp (by omega)]; simp [*]), rfl⟩⟩
