/-! leaves without a heap -/
def q_b (P : Prop) [Decidable P] : Int32 := if P then 1 else 0
theorem q_b0 {P : Prop} [Decidable P] : q_b P = 0 ↔ ¬ P := by unfold q_b; split <;> simp_all
theorem q_b1 {P : Prop} [Decidable P] : ¬ q_b P = 0 ↔ P := by unfold q_b; split <;> simp_all
theorem q_bn {P : Prop} [Decidable P] : narrow .boolean (.int (q_b P)) = .int (q_b P) := by unfold q_b; split <;> rfl
theorem q_bt {P : Prop} [Decidable P] (h : P) : (1 : Int32) = q_b P := (if_pos h).symm
theorem q_bf {P : Prop} [Decidable P] (h : ¬ P) : (0 : Int32) = q_b P := (if_neg h).symm
theorem q_bi {P Q : Prop} [Decidable P] [Decidable Q] (h : P ↔ Q) : q_b P = q_b Q := by unfold q_b; simp only [h]
theorem q_lt {x y : Int64} (h : lg_cmp x y < 0) : x.toInt < y.toInt := Int64.lt_iff_toInt_lt.mp ((lg_cmp_lt x y).mp h)
theorem q_nlt {x y : Int64} (h : ¬ lg_cmp x y < 0) : y.toInt ≤ x.toInt := by
  rcases Int.lt_or_le x.toInt y.toInt with q | q
  · exact absurd ((lg_cmp_lt x y).mpr (Int64.lt_iff_toInt_lt.mpr q)) h
  · exact q
theorem q_gt {x y : Int64} (h : 0 < lg_cmp x y) : y.toInt < x.toInt := Int64.lt_iff_toInt_lt.mp ((lg_cmp_gt x y).mp h)
theorem q_ngt {x y : Int64} (h : ¬ 0 < lg_cmp x y) : x.toInt ≤ y.toInt := by
  rcases Int.lt_or_le y.toInt x.toInt with q | q
  · exact absurd ((lg_cmp_gt x y).mpr (Int64.lt_iff_toInt_lt.mpr q)) h
  · exact q
theorem q_ilt {x y : Int32} : x < y ↔ x.toInt < y.toInt := Int32.lt_iff_toInt_lt
theorem q_ile {x y : Int32} : x ≤ y ↔ x.toInt ≤ y.toInt := Int32.le_iff_toInt_le
theorem q_ieq {x y : Int32} : x = y ↔ x.toInt = y.toInt := Int32.toInt_inj.symm
set_option maxHeartbeats 4000000 in
set_option maxRecDepth 100000 in
theorem c_X7_isWithin {ty : Nat → PT} {al : Nat → Bool} {h : PH} (v lo hi : Int64) : q_ConI yX7_isWithin cX7_isWithin 6 (some .boolean) 0 0 ty al [.long v, .long lo, .long hi] h (fun r h' => r = q_b (lo.toInt ≤ v.toInt ∧ v.toInt ≤ hi.toInt) ∧ h' = h) := by
  refine q_Con.of RX7 [some (.long v), none, some (.long lo), none, some (.long hi), none] (by decide +kernel) rfl rfl (Nat.le_of_ble_eq_true rfl) (fun C ad E Z => ?_)
  refine g_lload_0 E dX7_isWithin_0 ?_
  refine g_lload_2 E dX7_isWithin_1 ?_
  refine g_lcmp E dX7_isWithin_2 ?_
  refine g_if_lt (tgt := 17) E dX7_isWithin_3 (by decide) (fun c_3 => ?_) (fun c_3 => ?_)
  · have k1 := q_lt c_3
    refine g_iconst (v := 0) E dX7_isWithin_17 (by decide) ?_
    exact g_zret E Z dX7_isWithin_18 rfl ⟨_, rfl, ⟨by first | exact q_bt ⟨by omega, by omega⟩ | exact q_bf (by omega), rfl⟩⟩
  · have k1 := q_nlt c_3
    refine g_lload_0 E dX7_isWithin_6 ?_
    refine g_lload_4 E dX7_isWithin_7 ?_
    refine g_lcmp E dX7_isWithin_9 ?_
    refine g_if_gt (tgt := 17) E dX7_isWithin_10 (by decide) (fun c_10 => ?_) (fun c_10 => ?_)
    · have k2 := q_gt c_10
      refine g_iconst (v := 0) E dX7_isWithin_17 (by decide) ?_
      exact g_zret E Z dX7_isWithin_18 rfl ⟨_, rfl, ⟨by first | exact q_bt ⟨by omega, by omega⟩ | exact q_bf (by omega), rfl⟩⟩
    · have k2 := q_ngt c_10
      refine g_iconst (v := 1) E dX7_isWithin_13 (by decide) ?_
      refine g_goto (tgt := 18) E dX7_isWithin_14 (by decide) ?_
      exact g_zret E Z dX7_isWithin_18 rfl ⟨_, rfl, ⟨by first | exact q_bt ⟨by omega, by omega⟩ | exact q_bf (by omega), rfl⟩⟩
set_option maxHeartbeats 4000000 in
set_option maxRecDepth 100000 in
theorem c_X8_in {ty : Nat → PT} {al : Nat → Bool} {h : PH} (v lo hi : Int64) : q_ConI yX8_in cX8_in 6 (some .boolean) 0 0 ty al [.long v, .long lo, .long hi] h (fun r h' => r = q_b (lo.toInt ≤ v.toInt ∧ v.toInt ≤ hi.toInt) ∧ h' = h) := by
  refine q_Con.of RX8 [some (.long v), none, some (.long lo), none, some (.long hi), none] (by decide +kernel) rfl rfl (Nat.le_of_ble_eq_true rfl) (fun C ad E Z => ?_)
  refine g_lload_0 E dX8_in_0 ?_
  refine g_lload_2 E dX8_in_1 ?_
  refine g_lcmp E dX8_in_2 ?_
  refine g_if_lt (tgt := 17) E dX8_in_3 (by decide) (fun c_3 => ?_) (fun c_3 => ?_)
  · have k1 := q_lt c_3
    refine g_iconst (v := 0) E dX8_in_17 (by decide) ?_
    exact g_zret E Z dX8_in_18 rfl ⟨_, rfl, ⟨by first | exact q_bt ⟨by omega, by omega⟩ | exact q_bf (by omega), rfl⟩⟩
  · have k1 := q_nlt c_3
    refine g_lload_0 E dX8_in_6 ?_
    refine g_lload_4 E dX8_in_7 ?_
    refine g_lcmp E dX8_in_9 ?_
    refine g_if_gt (tgt := 17) E dX8_in_10 (by decide) (fun c_10 => ?_) (fun c_10 => ?_)
    · have k2 := q_gt c_10
      refine g_iconst (v := 0) E dX8_in_17 (by decide) ?_
      exact g_zret E Z dX8_in_18 rfl ⟨_, rfl, ⟨by first | exact q_bt ⟨by omega, by omega⟩ | exact q_bf (by omega), rfl⟩⟩
    · have k2 := q_ngt c_10
      refine g_iconst (v := 1) E dX8_in_13 (by decide) ?_
      refine g_goto (tgt := 18) E dX8_in_14 (by decide) ?_
      exact g_zret E Z dX8_in_18 rfl ⟨_, rfl, ⟨by first | exact q_bt ⟨by omega, by omega⟩ | exact q_bf (by omega), rfl⟩⟩
theorem q_32 (x : Int32) : x.toInt64.toInt = x.toInt := Int32.toInt_toInt64 x
set_option maxHeartbeats 4000000 in
set_option maxRecDepth 100000 in
theorem c_J9_min_7cf53 {ty : Nat → PT} {al : Nat → Bool} {h : PH} (x y : Int32) : q_ConI yJ9_min_7cf53 cJ9_min_7cf53 2 (some .int) 0 0 ty al [.int x, .int y] h (fun r h' => r = (if y < x then y else x) ∧ h' = h) := by
  refine q_Con.of RJ9 [some (.int x), some (.int y)] (by decide +kernel) rfl rfl (Nat.le_of_ble_eq_true rfl) (fun C ad E Z => ?_)
  refine g_iload_0 E dJ9_min_7cf53_0 ?_
  refine g_iload_1 E dJ9_min_7cf53_1 ?_
  refine g_icmp_gt (tgt := 9) E dJ9_min_7cf53_2 (by decide) (fun c_2 => ?_) (fun c_2 => ?_)
  · refine g_iload_1 E dJ9_min_7cf53_9 ?_
    exact g_iret E Z dJ9_min_7cf53_10 ⟨_, rfl, ⟨by first | exact (if_pos (by assumption)).symm | exact (if_neg (by assumption)).symm, rfl⟩⟩
  · refine g_iload_0 E dJ9_min_7cf53_5 ?_
    refine g_goto (tgt := 10) E dJ9_min_7cf53_6 (by decide) ?_
    exact g_iret E Z dJ9_min_7cf53_10 ⟨_, rfl, ⟨by first | exact (if_pos (by assumption)).symm | exact (if_neg (by assumption)).symm, rfl⟩⟩
set_option maxHeartbeats 4000000 in
set_option maxRecDepth 100000 in
theorem c_J9_max_7cf53 {ty : Nat → PT} {al : Nat → Bool} {h : PH} (x y : Int32) : q_ConI yJ9_max_7cf53 cJ9_max_7cf53 2 (some .int) 0 0 ty al [.int x, .int y] h (fun r h' => r = (if x < y then y else x) ∧ h' = h) := by
  refine q_Con.of RJ9 [some (.int x), some (.int y)] (by decide +kernel) rfl rfl (Nat.le_of_ble_eq_true rfl) (fun C ad E Z => ?_)
  refine g_iload_0 E dJ9_max_7cf53_0 ?_
  refine g_iload_1 E dJ9_max_7cf53_1 ?_
  refine g_icmp_lt (tgt := 9) E dJ9_max_7cf53_2 (by decide) (fun c_2 => ?_) (fun c_2 => ?_)
  · refine g_iload_1 E dJ9_max_7cf53_9 ?_
    exact g_iret E Z dJ9_max_7cf53_10 ⟨_, rfl, ⟨by first | exact (if_pos (by assumption)).symm | exact (if_neg (by assumption)).symm, rfl⟩⟩
  · refine g_iload_0 E dJ9_max_7cf53_5 ?_
    refine g_goto (tgt := 10) E dJ9_max_7cf53_6 (by decide) ?_
    exact g_iret E Z dJ9_max_7cf53_10 ⟨_, rfl, ⟨by first | exact (if_pos (by assumption)).symm | exact (if_neg (by assumption)).symm, rfl⟩⟩
set_option maxHeartbeats 4000000 in
set_option maxRecDepth 100000 in
theorem c_J9_max_f86c9 {ty : Nat → PT} {al : Nat → Bool} {h : PH} (x y : Int64) : q_ConL yJ9_max_f86c9 cJ9_max_f86c9 4 (some .long) 0 0 ty al [.long x, .long y] h (fun r h' => r = (if x < y then y else x) ∧ h' = h) := by
  refine q_Con.of RJ9 [some (.long x), none, some (.long y), none] (by decide +kernel) rfl rfl (Nat.le_of_ble_eq_true rfl) (fun C ad E Z => ?_)
  refine g_lload_0 E dJ9_max_f86c9_0 ?_
  refine g_lload_2 E dJ9_max_f86c9_1 ?_
  refine g_lcmp E dJ9_max_f86c9_2 ?_
  refine g_if_lt (tgt := 10) E dJ9_max_f86c9_3 (by decide) (fun c_3 => ?_) (fun c_3 => ?_)
  · have k1 := (lg_cmp_lt _ _).mp c_3
    refine g_lload_2 E dJ9_max_f86c9_10 ?_
    exact g_lret E Z dJ9_max_f86c9_11 ⟨_, rfl, ⟨by first | exact (if_pos k1).symm | exact (if_neg k1).symm, rfl⟩⟩
  · have k1 := fun q => c_3 ((lg_cmp_lt _ _).mpr q)
    refine g_lload_0 E dJ9_max_f86c9_6 ?_
    refine g_goto (tgt := 11) E dJ9_max_f86c9_7 (by decide) ?_
    exact g_lret E Z dJ9_max_f86c9_11 ⟨_, rfl, ⟨by first | exact (if_pos k1).symm | exact (if_neg k1).symm, rfl⟩⟩
def q_bit (s c : Int32) : Int32 := s >>> (c &&& 31) &&& 1
set_option maxHeartbeats 4000000 in
set_option maxRecDepth 100000 in
theorem c_X7_contains {ty : Nat → PT} {al : Nat → Bool} {h : PH} (s c : Int32) : q_ConI yX7_contains cX7_contains 2 (some .boolean) 0 0 ty al [.int s, .int c] h (fun r h' => r = q_b (¬ q_bit s c = 0) ∧ h' = h) := by
  refine q_Con.of RX7 [some (.int s), some (.int c)] (by decide +kernel) rfl rfl (Nat.le_of_ble_eq_true rfl) (fun C ad E Z => ?_)
  refine g_iload_0 E dX7_contains_0 ?_
  refine g_iload_1 E dX7_contains_1 ?_
  refine g_ishr E dX7_contains_2 ?_
  refine g_iconst (v := 1) E dX7_contains_3 (by decide) ?_
  refine g_iand E dX7_contains_4 ?_
  refine g_if_eq (tgt := 12) E dX7_contains_5 (by decide) (fun c_5 => ?_) (fun c_5 => ?_)
  · refine g_iconst (v := 0) E dX7_contains_12 (by decide) ?_
    exact g_zret E Z dX7_contains_13 rfl ⟨_, rfl, ⟨by first | exact q_bt (by assumption) | exact q_bf (not_not_intro (by assumption)), rfl⟩⟩
  · refine g_iconst (v := 1) E dX7_contains_8 (by decide) ?_
    refine g_goto (tgt := 13) E dX7_contains_9 (by decide) ?_
    exact g_zret E Z dX7_contains_13 rfl ⟨_, rfl, ⟨by first | exact q_bt (by assumption) | exact q_bf (not_not_intro (by assumption)), rfl⟩⟩
set_option maxHeartbeats 4000000 in
set_option maxRecDepth 100000 in
theorem c_X8_isPlace {ty : Nat → PT} {al : Nat → Bool} {h : PH} (x : Int32) : q_ConI yX8_isPlace cX8_isPlace 1 (some .boolean) 1 25 ty al [.int x] h (fun r h' => r = q_b (0 ≤ x.toInt ∧ x.toInt ≤ 3) ∧ h' = h) := by
  refine q_Con.of RX8 [some (.int x)] (by decide +kernel) rfl rfl (Nat.le_of_ble_eq_true rfl) (fun C ad E Z => ?_)
  refine g_iload_0 E dX8_isPlace_0 ?_
  refine g_i2l E dX8_isPlace_1 ?_
  refine g_lconst (v := 0) E dX8_isPlace_2 (by decide) ?_
  refine g_ldc2 E kw_X8_140 dX8_isPlace_3 ?_
  refine g_cSi3 E (c_X8_in _ _ _) cw_X8_142 (by decide) (by decide) (by decide) dX8_isPlace_6 (fun v_6 h_6 hp => ?_)
  obtain ⟨rfl, rfl⟩ := hp
  exact g_zret E Z dX8_isPlace_9 q_bn ⟨_, rfl, ⟨q_bi (by rw [q_32]; exact Iff.rfl), rfl⟩⟩
set_option maxHeartbeats 4000000 in
set_option maxRecDepth 100000 in
theorem c_X8_isGate {ty : Nat → PT} {al : Nat → Bool} {h : PH} (x : Int32) : q_ConI yX8_isGate cX8_isGate 1 (some .boolean) 1 25 ty al [.int x] h (fun r h' => r = q_b (0 ≤ x.toInt ∧ x.toInt ≤ 2) ∧ h' = h) := by
  refine q_Con.of RX8 [some (.int x)] (by decide +kernel) rfl rfl (Nat.le_of_ble_eq_true rfl) (fun C ad E Z => ?_)
  refine g_iload_0 E dX8_isGate_0 ?_
  refine g_i2l E dX8_isGate_1 ?_
  refine g_lconst (v := 0) E dX8_isGate_2 (by decide) ?_
  refine g_ldc2 E kw_X8_167 dX8_isGate_3 ?_
  refine g_cSi3 E (c_X8_in _ _ _) cw_X8_142 (by decide) (by decide) (by decide) dX8_isGate_6 (fun v_6 h_6 hp => ?_)
  obtain ⟨rfl, rfl⟩ := hp
  exact g_zret E Z dX8_isGate_9 q_bn ⟨_, rfl, ⟨q_bi (by rw [q_32]; exact Iff.rfl), rfl⟩⟩
set_option maxHeartbeats 4000000 in
set_option maxRecDepth 100000 in
theorem c_X7_isGateway {ty : Nat → PT} {al : Nat → Bool} {h : PH} (x : Int32) : q_ConI yX7_isGateway cX7_isGateway 1 (some .boolean) 1 25 ty al [.int x] h (fun r h' => r = q_b (0 ≤ x.toInt ∧ x.toInt ≤ 2) ∧ h' = h) := by
  refine q_Con.of RX7 [some (.int x)] (by decide +kernel) rfl rfl (Nat.le_of_ble_eq_true rfl) (fun C ad E Z => ?_)
  refine g_iload_0 E dX7_isGateway_0 ?_
  refine g_i2l E dX7_isGateway_1 ?_
  refine g_lconst (v := 0) E dX7_isGateway_2 (by decide) ?_
  refine g_ldc2 E kw_X7_97 dX7_isGateway_3 ?_
  refine g_cSi3 E (c_X7_isWithin _ _ _) cw_X7_47 (by decide) (by decide) (by decide) dX7_isGateway_6 (fun v_6 h_6 hp => ?_)
  obtain ⟨rfl, rfl⟩ := hp
  exact g_zret E Z dX7_isGateway_9 q_bn ⟨_, rfl, ⟨q_bi (by rw [q_32]; exact Iff.rfl), rfl⟩⟩
set_option maxHeartbeats 4000000 in
set_option maxRecDepth 100000 in
theorem c_X5_isPlace {ty : Nat → PT} {al : Nat → Bool} {h : PH} (x : Int32) : q_ConI yX5_isPlace cX5_isPlace 1 (some .boolean) 0 0 ty al [.int x] h (fun r h' => r = q_b (0 ≤ x.toInt ∧ x.toInt ≤ 3) ∧ h' = h) := by
  refine q_Con.of RX5 [some (.int x)] (by decide +kernel) rfl rfl (Nat.le_of_ble_eq_true rfl) (fun C ad E Z => ?_)
  refine g_iload_0 E dX5_isPlace_0 ?_
  refine g_if_lt (tgt := 13) E dX5_isPlace_1 (by decide) (fun c_1 => ?_) (fun c_1 => ?_)
  · simp only [q_ilt, q_ile, Int32.reduceToInt, Int32.toInt_zero] at c_1
    refine g_iconst (v := 0) E dX5_isPlace_13 (by decide) ?_
    exact g_zret E Z dX5_isPlace_14 rfl ⟨_, rfl, ⟨by first | exact q_bt ⟨by omega, by omega⟩ | exact q_bf (by omega), rfl⟩⟩
  · simp only [q_ilt, q_ile, Int32.reduceToInt, Int32.toInt_zero] at c_1
    refine g_iload_0 E dX5_isPlace_4 ?_
    refine g_iconst (v := 4) E dX5_isPlace_5 (by decide) ?_
    refine g_icmp_ge (tgt := 13) E dX5_isPlace_6 (by decide) (fun c_6 => ?_) (fun c_6 => ?_)
    · simp only [q_ilt, q_ile, Int32.reduceToInt, Int32.toInt_zero] at c_6
      refine g_iconst (v := 0) E dX5_isPlace_13 (by decide) ?_
      exact g_zret E Z dX5_isPlace_14 rfl ⟨_, rfl, ⟨by first | exact q_bt ⟨by omega, by omega⟩ | exact q_bf (by omega), rfl⟩⟩
    · simp only [q_ilt, q_ile, Int32.reduceToInt, Int32.toInt_zero] at c_6
      refine g_iconst (v := 1) E dX5_isPlace_9 (by decide) ?_
      refine g_goto (tgt := 14) E dX5_isPlace_10 (by decide) ?_
      exact g_zret E Z dX5_isPlace_14 rfl ⟨_, rfl, ⟨by first | exact q_bt ⟨by omega, by omega⟩ | exact q_bf (by omega), rfl⟩⟩
